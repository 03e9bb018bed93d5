/-! Machine: its methods as plain functions, and that the bytecode runs them (printed by program). -/
theorem mt_Machine_init : sf_Mt ({ cls := "SplitFares$Machine", name := "<init>", desc := "()V" } : Jvm.MethodName) prog_4_method_1_code 1 none 0 := ⟨sw_74, sw_5, ⟨by decide, by decide, by decide +kernel⟩, by decide⟩
theorem dd_Machine_init_0 : decode prog_4_method_1_code 0 = .ok (.aload_n 0, 1) := by decide +kernel
theorem dd_Machine_init_1 : decode prog_4_method_1_code 1 = .ok (.invokespecial 3, 3) := by decide +kernel
theorem dd_Machine_init_4 : decode prog_4_method_1_code 4 = .ok (.aload_n 0, 1) := by decide +kernel
theorem dd_Machine_init_5 : decode prog_4_method_1_code 5 = .ok (.bipush 12, 2) := by decide +kernel
theorem dd_Machine_init_7 : decode prog_4_method_1_code 7 = .ok (.newarray .int, 2) := by decide +kernel
theorem dd_Machine_init_9 : decode prog_4_method_1_code 9 = .ok (.putfield 9, 3) := by decide +kernel
theorem dd_Machine_init_12 : decode prog_4_method_1_code 12 = .ok (.aload_n 0, 1) := by decide +kernel
theorem dd_Machine_init_13 : decode prog_4_method_1_code 13 = .ok (.bipush 64, 2) := by decide +kernel
theorem dd_Machine_init_15 : decode prog_4_method_1_code 15 = .ok (.newarray .int, 2) := by decide +kernel
theorem dd_Machine_init_17 : decode prog_4_method_1_code 17 = .ok (.putfield 15, 3) := by decide +kernel
theorem dd_Machine_init_20 : decode prog_4_method_1_code 20 = .ok (.return_, 1) := by decide +kernel
def jx_Machine_init (p0 : Option Nat) : sf_M (Unit) :=
  sf_bnd (sf_rc 3 p0 (sf_ret ())) fun _ =>
  sf_bnd (sf_newA 0 (12 : Int32)) fun x1 =>
  sf_bnd (sf_pR 3 0 p0 x1) fun _ =>
  sf_bnd (sf_newA 0 (64 : Int32)) fun x2 =>
  sf_bnd (sf_pR 3 1 p0 x2) fun _ =>
  sf_ret ()
set_option maxRecDepth 20000 in
set_option maxHeartbeats 4000000 in
theorem ok_Machine_init (p0 : Option Nat) : sf_Ok ({ cls := "SplitFares$Machine", name := "<init>", desc := "()V" } : Jvm.MethodName) prog_4_method_1_code 1 none 1 [sf_rv p0] (jx_Machine_init p0) (fun _ => none) := by
  refine sf_Ok.of (env := [some (sf_rv p0)]) (plainFor_of_name (by decide)) [false] (fun G => ⟨pk_r, trivial⟩) (Nat.le_of_ble_eq_true rfl) rfl (fun X => ?_)
  unfold jx_Machine_init
  refine fp_aload_n (i := 0) (r := p0) dd_Machine_init_0 rfl rfl (fr_pc (pc' := 1) rfl ?_)
  refine fr_obj (ci := 3) (by decide) sw_75 sw_27 sw_28 (Nat.le_of_ble_eq_true rfl) (Nat.le_of_ble_eq_true rfl) dd_Machine_init_1 (fr_pc (pc' := 4) rfl ?_)
  refine fp_aload_n (i := 0) (r := p0) dd_Machine_init_4 rfl rfl (fr_pc (pc' := 5) rfl ?_)
  refine fp_bipush (v := (12 : Int32)) dd_Machine_init_5 (by decide) (fr_pc (pc' := 7) rfl ?_)
  refine fr_newI dd_Machine_init_7 (fun x1 => fr_pc (pc' := 9) rfl ?_)
  refine fr_pRg cl_3 0 (by decide) rfl sw_76 (Or.inr ⟨rfl, rfl, rfl⟩) (Or.inr ⟨_, rfl⟩) dd_Machine_init_9 (fr_pc (pc' := 12) rfl ?_)
  refine fp_aload_n (i := 0) (r := p0) dd_Machine_init_12 rfl rfl (fr_pc (pc' := 13) rfl ?_)
  refine fp_bipush (v := (64 : Int32)) dd_Machine_init_13 (by decide) (fr_pc (pc' := 15) rfl ?_)
  refine fr_newI dd_Machine_init_15 (fun x2 => fr_pc (pc' := 17) rfl ?_)
  refine fr_pRg cl_3 1 (by decide) rfl sw_79 (Or.inr ⟨rfl, rfl, rfl⟩) (Or.inr ⟨_, rfl⟩) dd_Machine_init_17 (fr_pc (pc' := 20) rfl ?_)
  exact fr_vret rfl rfl dd_Machine_init_20
theorem mt_Machine_wordAt : sf_Mt ({ cls := "SplitFares$Machine", name := "wordAt", desc := "(I)I" } : Jvm.MethodName) prog_4_method_3_code 2 (some .int) 1 := ⟨sw_446, sw_5, ⟨by decide, by decide, by decide +kernel⟩, by decide⟩
theorem dd_Machine_wordAt_0 : decode prog_4_method_3_code 0 = .ok (.iload_n 1, 1) := by decide +kernel
theorem dd_Machine_wordAt_1 : decode prog_4_method_3_code 1 = .ok (.ifCond .lt 21, 3) := by decide +kernel
theorem dd_Machine_wordAt_4 : decode prog_4_method_3_code 4 = .ok (.iload_n 1, 1) := by decide +kernel
theorem dd_Machine_wordAt_5 : decode prog_4_method_3_code 5 = .ok (.aload_n 0, 1) := by decide +kernel
theorem dd_Machine_wordAt_6 : decode prog_4_method_3_code 6 = .ok (.getfield 9, 3) := by decide +kernel
theorem dd_Machine_wordAt_9 : decode prog_4_method_3_code 9 = .ok (.arraylength, 1) := by decide +kernel
theorem dd_Machine_wordAt_10 : decode prog_4_method_3_code 10 = .ok (.if_icmp .ge 12, 3) := by decide +kernel
theorem dd_Machine_wordAt_13 : decode prog_4_method_3_code 13 = .ok (.aload_n 0, 1) := by decide +kernel
theorem dd_Machine_wordAt_14 : decode prog_4_method_3_code 14 = .ok (.getfield 9, 3) := by decide +kernel
theorem dd_Machine_wordAt_17 : decode prog_4_method_3_code 17 = .ok (.iload_n 1, 1) := by decide +kernel
theorem dd_Machine_wordAt_18 : decode prog_4_method_3_code 18 = .ok (.iaload, 1) := by decide +kernel
theorem dd_Machine_wordAt_19 : decode prog_4_method_3_code 19 = .ok (.goto 4, 3) := by decide +kernel
theorem dd_Machine_wordAt_22 : decode prog_4_method_3_code 22 = .ok (.iconst 0, 1) := by decide +kernel
theorem dd_Machine_wordAt_23 : decode prog_4_method_3_code 23 = .ok (.ireturn, 1) := by decide +kernel
def jx_Machine_wordAt (p0 : Option Nat) (p1 : Int32) : sf_M (Int32) :=
  if p1 < 0 then (
  sf_ret (0 : Int32)
  ) else (
  sf_bnd (sf_gR 3 0 p0) fun x2 =>
  sf_bnd (sf_len x2) fun x3 =>
  if x3 ≤ p1 then (
  sf_ret (0 : Int32)
  ) else (
  sf_bnd (sf_gR 3 0 p0) fun x5 =>
  sf_bnd (sf_aI 0 x5 p1) fun x6 =>
  sf_ret x6
  )
  )
set_option maxRecDepth 20000 in
set_option maxHeartbeats 4000000 in
theorem ok_Machine_wordAt (p0 : Option Nat) (p1 : Int32) : sf_Ok ({ cls := "SplitFares$Machine", name := "wordAt", desc := "(I)I" } : Jvm.MethodName) prog_4_method_3_code 2 (some .int) 0 [sf_rv p0, .int p1] (jx_Machine_wordAt p0 p1) (fun r => some (.int r)) := by
  refine sf_Ok.of (env := [some (sf_rv p0), some (.int p1)]) (plainFor_of_name (by decide)) [false, false] (fun G => ⟨pk_r, pk_i, trivial⟩) (Nat.le_of_ble_eq_true rfl) rfl (fun X => ?_)
  unfold jx_Machine_wordAt
  refine fp_iload_n (i := 1) (x := p1) dd_Machine_wordAt_0 rfl rfl (fr_pc (pc' := 1) rfl ?_)
  refine fr_if_lt (tgt := 22) dd_Machine_wordAt_1 rfl (fun _ => ?_) (fun _ => ?_)
  · refine fp_iconst (v := (0 : Int32)) dd_Machine_wordAt_22 (by decide) (fr_pc (pc' := 23) rfl ?_)
    exact fr_iret (v := (0 : Int32)) rfl rfl dd_Machine_wordAt_23
  · refine fr_pc (pc' := 4) rfl ?_
    refine fp_iload_n (i := 1) (x := p1) dd_Machine_wordAt_4 rfl rfl (fr_pc (pc' := 5) rfl ?_)
    refine fp_aload_n (i := 0) (r := p0) dd_Machine_wordAt_5 rfl rfl (fr_pc (pc' := 6) rfl ?_)
    refine fr_gR cl_3 0 (by decide) rfl sw_76 dd_Machine_wordAt_6 (fun x2 => fr_pc (pc' := 9) rfl ?_)
    refine fr_len dd_Machine_wordAt_9 (fun x3 => fr_pc (pc' := 10) rfl ?_)
    refine fr_icmp_ge (tgt := 22) dd_Machine_wordAt_10 rfl (fun _ => ?_) (fun _ => ?_)
    · refine fp_iconst (v := (0 : Int32)) dd_Machine_wordAt_22 (by decide) (fr_pc (pc' := 23) rfl ?_)
      exact fr_iret (v := (0 : Int32)) rfl rfl dd_Machine_wordAt_23
    · refine fr_pc (pc' := 13) rfl ?_
      refine fp_aload_n (i := 0) (r := p0) dd_Machine_wordAt_13 rfl rfl (fr_pc (pc' := 14) rfl ?_)
      refine fr_gR cl_3 0 (by decide) rfl sw_76 dd_Machine_wordAt_14 (fun x5 => fr_pc (pc' := 17) rfl ?_)
      refine fp_iload_n (i := 1) (x := p1) dd_Machine_wordAt_17 rfl rfl (fr_pc (pc' := 18) rfl ?_)
      refine fr_aI0 dd_Machine_wordAt_18 (fun x6 => fr_pc (pc' := 19) rfl ?_)
      refine fp_goto (tgt := 23) dd_Machine_wordAt_19 rfl ?_
      exact fr_iret (v := x6) rfl rfl dd_Machine_wordAt_23
theorem mt_Machine_joined : sf_Mt ({ cls := "SplitFares$Machine", name := "joined", desc := "(IJJ)J" } : Jvm.MethodName) prog_4_method_4_code 5 (some .long) 3 := ⟨sw_452, sw_5, ⟨by decide, by decide, by decide +kernel⟩, by decide⟩
theorem dd_Machine_joined_0 : decode prog_4_method_4_code 0 = .ok (.iload_n 0, 1) := by decide +kernel
theorem dd_Machine_joined_1 : decode prog_4_method_4_code 1 = .ok (.tableswitch 127 5 12 #[47, 51, 55, 59, 75, 91, 103, 115], 47) := by decide +kernel
theorem dd_Machine_joined_128 : decode prog_4_method_4_code 128 = .ok (.ldc2_w 51, 3) := by decide +kernel
theorem dd_Machine_joined_131 : decode prog_4_method_4_code 131 = .ok (.lreturn, 1) := by decide +kernel
theorem dd_Machine_joined_116 : decode prog_4_method_4_code 116 = .ok (.lload_n 1, 1) := by decide +kernel
theorem dd_Machine_joined_117 : decode prog_4_method_4_code 117 = .ok (.lload_n 3, 1) := by decide +kernel
theorem dd_Machine_joined_118 : decode prog_4_method_4_code 118 = .ok (.lcmp, 1) := by decide +kernel
theorem dd_Machine_joined_119 : decode prog_4_method_4_code 119 = .ok (.ifCond .ne 7, 3) := by decide +kernel
theorem dd_Machine_joined_122 : decode prog_4_method_4_code 122 = .ok (.lconst 1, 1) := by decide +kernel
theorem dd_Machine_joined_123 : decode prog_4_method_4_code 123 = .ok (.goto 4, 3) := by decide +kernel
theorem dd_Machine_joined_126 : decode prog_4_method_4_code 126 = .ok (.lconst 0, 1) := by decide +kernel
theorem dd_Machine_joined_127 : decode prog_4_method_4_code 127 = .ok (.lreturn, 1) := by decide +kernel
theorem dd_Machine_joined_104 : decode prog_4_method_4_code 104 = .ok (.lload_n 1, 1) := by decide +kernel
theorem dd_Machine_joined_105 : decode prog_4_method_4_code 105 = .ok (.lload_n 3, 1) := by decide +kernel
theorem dd_Machine_joined_106 : decode prog_4_method_4_code 106 = .ok (.lcmp, 1) := by decide +kernel
theorem dd_Machine_joined_107 : decode prog_4_method_4_code 107 = .ok (.ifCond .le 7, 3) := by decide +kernel
theorem dd_Machine_joined_110 : decode prog_4_method_4_code 110 = .ok (.lconst 1, 1) := by decide +kernel
theorem dd_Machine_joined_111 : decode prog_4_method_4_code 111 = .ok (.goto 4, 3) := by decide +kernel
theorem dd_Machine_joined_114 : decode prog_4_method_4_code 114 = .ok (.lconst 0, 1) := by decide +kernel
theorem dd_Machine_joined_115 : decode prog_4_method_4_code 115 = .ok (.lreturn, 1) := by decide +kernel
theorem dd_Machine_joined_92 : decode prog_4_method_4_code 92 = .ok (.lload_n 1, 1) := by decide +kernel
theorem dd_Machine_joined_93 : decode prog_4_method_4_code 93 = .ok (.lload_n 3, 1) := by decide +kernel
theorem dd_Machine_joined_94 : decode prog_4_method_4_code 94 = .ok (.lcmp, 1) := by decide +kernel
theorem dd_Machine_joined_95 : decode prog_4_method_4_code 95 = .ok (.ifCond .ge 7, 3) := by decide +kernel
theorem dd_Machine_joined_98 : decode prog_4_method_4_code 98 = .ok (.lconst 1, 1) := by decide +kernel
theorem dd_Machine_joined_99 : decode prog_4_method_4_code 99 = .ok (.goto 4, 3) := by decide +kernel
theorem dd_Machine_joined_102 : decode prog_4_method_4_code 102 = .ok (.lconst 0, 1) := by decide +kernel
theorem dd_Machine_joined_103 : decode prog_4_method_4_code 103 = .ok (.lreturn, 1) := by decide +kernel
theorem dd_Machine_joined_76 : decode prog_4_method_4_code 76 = .ok (.lload_n 3, 1) := by decide +kernel
theorem dd_Machine_joined_77 : decode prog_4_method_4_code 77 = .ok (.lconst 0, 1) := by decide +kernel
theorem dd_Machine_joined_78 : decode prog_4_method_4_code 78 = .ok (.lcmp, 1) := by decide +kernel
theorem dd_Machine_joined_79 : decode prog_4_method_4_code 79 = .ok (.ifCond .ne 9, 3) := by decide +kernel
theorem dd_Machine_joined_82 : decode prog_4_method_4_code 82 = .ok (.ldc2_w 51, 3) := by decide +kernel
theorem dd_Machine_joined_85 : decode prog_4_method_4_code 85 = .ok (.goto 6, 3) := by decide +kernel
theorem dd_Machine_joined_88 : decode prog_4_method_4_code 88 = .ok (.lload_n 1, 1) := by decide +kernel
theorem dd_Machine_joined_89 : decode prog_4_method_4_code 89 = .ok (.lload_n 3, 1) := by decide +kernel
theorem dd_Machine_joined_90 : decode prog_4_method_4_code 90 = .ok (.lrem, 1) := by decide +kernel
theorem dd_Machine_joined_91 : decode prog_4_method_4_code 91 = .ok (.lreturn, 1) := by decide +kernel
theorem dd_Machine_joined_60 : decode prog_4_method_4_code 60 = .ok (.lload_n 3, 1) := by decide +kernel
theorem dd_Machine_joined_61 : decode prog_4_method_4_code 61 = .ok (.lconst 0, 1) := by decide +kernel
theorem dd_Machine_joined_62 : decode prog_4_method_4_code 62 = .ok (.lcmp, 1) := by decide +kernel
theorem dd_Machine_joined_63 : decode prog_4_method_4_code 63 = .ok (.ifCond .ne 9, 3) := by decide +kernel
theorem dd_Machine_joined_66 : decode prog_4_method_4_code 66 = .ok (.ldc2_w 51, 3) := by decide +kernel
theorem dd_Machine_joined_69 : decode prog_4_method_4_code 69 = .ok (.goto 6, 3) := by decide +kernel
theorem dd_Machine_joined_72 : decode prog_4_method_4_code 72 = .ok (.lload_n 1, 1) := by decide +kernel
theorem dd_Machine_joined_73 : decode prog_4_method_4_code 73 = .ok (.lload_n 3, 1) := by decide +kernel
theorem dd_Machine_joined_74 : decode prog_4_method_4_code 74 = .ok (.ldiv, 1) := by decide +kernel
theorem dd_Machine_joined_75 : decode prog_4_method_4_code 75 = .ok (.lreturn, 1) := by decide +kernel
theorem dd_Machine_joined_56 : decode prog_4_method_4_code 56 = .ok (.lload_n 1, 1) := by decide +kernel
theorem dd_Machine_joined_57 : decode prog_4_method_4_code 57 = .ok (.lload_n 3, 1) := by decide +kernel
theorem dd_Machine_joined_58 : decode prog_4_method_4_code 58 = .ok (.lmul, 1) := by decide +kernel
theorem dd_Machine_joined_59 : decode prog_4_method_4_code 59 = .ok (.lreturn, 1) := by decide +kernel
theorem dd_Machine_joined_52 : decode prog_4_method_4_code 52 = .ok (.lload_n 1, 1) := by decide +kernel
theorem dd_Machine_joined_53 : decode prog_4_method_4_code 53 = .ok (.lload_n 3, 1) := by decide +kernel
theorem dd_Machine_joined_54 : decode prog_4_method_4_code 54 = .ok (.lsub, 1) := by decide +kernel
theorem dd_Machine_joined_55 : decode prog_4_method_4_code 55 = .ok (.lreturn, 1) := by decide +kernel
theorem dd_Machine_joined_48 : decode prog_4_method_4_code 48 = .ok (.lload_n 1, 1) := by decide +kernel
theorem dd_Machine_joined_49 : decode prog_4_method_4_code 49 = .ok (.lload_n 3, 1) := by decide +kernel
theorem dd_Machine_joined_50 : decode prog_4_method_4_code 50 = .ok (.ladd, 1) := by decide +kernel
theorem dd_Machine_joined_51 : decode prog_4_method_4_code 51 = .ok (.lreturn, 1) := by decide +kernel
def jx_Machine_joined (p0 : Int32) (p1 : Int64) (p2 : Int64) : sf_M (Int64) :=
  if p0 = (5 : Int32) then (
  sf_ret (p1 + p2)
  ) else (
  if p0 = (6 : Int32) then (
  sf_ret (p1 - p2)
  ) else (
  if p0 = (7 : Int32) then (
  sf_ret (p1 * p2)
  ) else (
  if p0 = (8 : Int32) then (
  if (lg_cmp p2 (0 : Int64)) = 0 then (
  sf_ret (2000000000 : Int64)
  ) else (
  sf_bnd (sf_dvL p1 p2) fun x2 =>
  sf_ret x2
  )
  ) else (
  if p0 = (9 : Int32) then (
  if (lg_cmp p2 (0 : Int64)) = 0 then (
  sf_ret (2000000000 : Int64)
  ) else (
  sf_bnd (sf_rmL p1 p2) fun x4 =>
  sf_ret x4
  )
  ) else (
  if p0 = (10 : Int32) then (
  if 0 ≤ (lg_cmp p1 p2) then (
  sf_ret (0 : Int64)
  ) else (
  sf_ret (1 : Int64)
  )
  ) else (
  if p0 = (11 : Int32) then (
  if (lg_cmp p1 p2) ≤ 0 then (
  sf_ret (0 : Int64)
  ) else (
  sf_ret (1 : Int64)
  )
  ) else (
  if p0 = (12 : Int32) then (
  if (lg_cmp p1 p2) = 0 then (
  sf_ret (1 : Int64)
  ) else (
  sf_ret (0 : Int64)
  )
  ) else (
  sf_ret (2000000000 : Int64)
  )
  )
  )
  )
  )
  )
  )
  )
set_option maxRecDepth 20000 in
set_option maxHeartbeats 4000000 in
theorem ok_Machine_joined (p0 : Int32) (p1 : Int64) (p2 : Int64) : sf_Ok ({ cls := "SplitFares$Machine", name := "joined", desc := "(IJJ)J" } : Jvm.MethodName) prog_4_method_4_code 5 (some .long) 0 [.int p0, .long p1, .long p2] (jx_Machine_joined p0 p1 p2) (fun r => some (.long r)) := by
  refine sf_Ok.of (env := [some (.int p0), some (.long p1), none, some (.long p2), none]) (plainFor_of_name (by decide)) [false, true, true] (fun G => ⟨pk_i, pk_l, pk_l, trivial⟩) (Nat.le_of_ble_eq_true rfl) rfl (fun X => ?_)
  unfold jx_Machine_joined
  refine fp_iload_n (i := 0) (x := p0) dd_Machine_joined_0 rfl rfl (fr_pc (pc' := 1) rfl ?_)
  refine fp_tsw (ts := [48, 52, 56, 60, 76, 92, 104, 116]) (t0 := 128) (cs := [((5 : Int32), 48), ((6 : Int32), 52), ((7 : Int32), 56), ((8 : Int32), 60), ((9 : Int32), 76), ((10 : Int32), 92), ((11 : Int32), 104), ((12 : Int32), 116)]) dd_Machine_joined_1 (by decide) rfl ?_
  refine fr_sw (fun _ => ?_) (fun _ => ?_)
  · refine fp_lload_n (i := 1) (x := p1) dd_Machine_joined_48 rfl rfl (fr_pc (pc' := 49) rfl ?_)
    refine fp_lload_n (i := 3) (x := p2) dd_Machine_joined_49 rfl rfl (fr_pc (pc' := 50) rfl ?_)
    refine fp_ladd dd_Machine_joined_50 (fr_pc (pc' := 51) rfl ?_)
    exact fr_lret (v := (p1 + p2)) rfl rfl dd_Machine_joined_51
  · refine fr_sw (fun _ => ?_) (fun _ => ?_)
    · refine fp_lload_n (i := 1) (x := p1) dd_Machine_joined_52 rfl rfl (fr_pc (pc' := 53) rfl ?_)
      refine fp_lload_n (i := 3) (x := p2) dd_Machine_joined_53 rfl rfl (fr_pc (pc' := 54) rfl ?_)
      refine fp_lsub dd_Machine_joined_54 (fr_pc (pc' := 55) rfl ?_)
      exact fr_lret (v := (p1 - p2)) rfl rfl dd_Machine_joined_55
    · refine fr_sw (fun _ => ?_) (fun _ => ?_)
      · refine fp_lload_n (i := 1) (x := p1) dd_Machine_joined_56 rfl rfl (fr_pc (pc' := 57) rfl ?_)
        refine fp_lload_n (i := 3) (x := p2) dd_Machine_joined_57 rfl rfl (fr_pc (pc' := 58) rfl ?_)
        refine fp_lmul dd_Machine_joined_58 (fr_pc (pc' := 59) rfl ?_)
        exact fr_lret (v := (p1 * p2)) rfl rfl dd_Machine_joined_59
      · refine fr_sw (fun _ => ?_) (fun _ => ?_)
        · refine fp_lload_n (i := 3) (x := p2) dd_Machine_joined_60 rfl rfl (fr_pc (pc' := 61) rfl ?_)
          refine fp_lconst (v := (0 : Int64)) dd_Machine_joined_61 (by decide) (fr_pc (pc' := 62) rfl ?_)
          refine fp_lcmp dd_Machine_joined_62 (fr_pc (pc' := 63) rfl ?_)
          refine fr_if_ne (tgt := 72) dd_Machine_joined_63 rfl (fun _ => ?_) (fun _ => ?_)
          · refine fr_pc (pc' := 66) rfl ?_
            refine fp_ldc2 (v := (2000000000 : Int64)) dd_Machine_joined_66 sw_453 (fr_pc (pc' := 69) rfl ?_)
            refine fp_goto (tgt := 75) dd_Machine_joined_69 rfl ?_
            exact fr_lret (v := (2000000000 : Int64)) rfl rfl dd_Machine_joined_75
          · refine fp_lload_n (i := 1) (x := p1) dd_Machine_joined_72 rfl rfl (fr_pc (pc' := 73) rfl ?_)
            refine fp_lload_n (i := 3) (x := p2) dd_Machine_joined_73 rfl rfl (fr_pc (pc' := 74) rfl ?_)
            refine fr_dvL dd_Machine_joined_74 (fun x2 => fr_pc (pc' := 75) rfl ?_)
            exact fr_lret (v := x2) rfl rfl dd_Machine_joined_75
        · refine fr_sw (fun _ => ?_) (fun _ => ?_)
          · refine fp_lload_n (i := 3) (x := p2) dd_Machine_joined_76 rfl rfl (fr_pc (pc' := 77) rfl ?_)
            refine fp_lconst (v := (0 : Int64)) dd_Machine_joined_77 (by decide) (fr_pc (pc' := 78) rfl ?_)
            refine fp_lcmp dd_Machine_joined_78 (fr_pc (pc' := 79) rfl ?_)
            refine fr_if_ne (tgt := 88) dd_Machine_joined_79 rfl (fun _ => ?_) (fun _ => ?_)
            · refine fr_pc (pc' := 82) rfl ?_
              refine fp_ldc2 (v := (2000000000 : Int64)) dd_Machine_joined_82 sw_453 (fr_pc (pc' := 85) rfl ?_)
              refine fp_goto (tgt := 91) dd_Machine_joined_85 rfl ?_
              exact fr_lret (v := (2000000000 : Int64)) rfl rfl dd_Machine_joined_91
            · refine fp_lload_n (i := 1) (x := p1) dd_Machine_joined_88 rfl rfl (fr_pc (pc' := 89) rfl ?_)
              refine fp_lload_n (i := 3) (x := p2) dd_Machine_joined_89 rfl rfl (fr_pc (pc' := 90) rfl ?_)
              refine fr_rmL dd_Machine_joined_90 (fun x4 => fr_pc (pc' := 91) rfl ?_)
              exact fr_lret (v := x4) rfl rfl dd_Machine_joined_91
          · refine fr_sw (fun _ => ?_) (fun _ => ?_)
            · refine fp_lload_n (i := 1) (x := p1) dd_Machine_joined_92 rfl rfl (fr_pc (pc' := 93) rfl ?_)
              refine fp_lload_n (i := 3) (x := p2) dd_Machine_joined_93 rfl rfl (fr_pc (pc' := 94) rfl ?_)
              refine fp_lcmp dd_Machine_joined_94 (fr_pc (pc' := 95) rfl ?_)
              refine fr_if_ge (tgt := 102) dd_Machine_joined_95 rfl (fun _ => ?_) (fun _ => ?_)
              · refine fp_lconst (v := (0 : Int64)) dd_Machine_joined_102 (by decide) (fr_pc (pc' := 103) rfl ?_)
                exact fr_lret (v := (0 : Int64)) rfl rfl dd_Machine_joined_103
              · refine fr_pc (pc' := 98) rfl ?_
                refine fp_lconst (v := (1 : Int64)) dd_Machine_joined_98 (by decide) (fr_pc (pc' := 99) rfl ?_)
                refine fp_goto (tgt := 103) dd_Machine_joined_99 rfl ?_
                exact fr_lret (v := (1 : Int64)) rfl rfl dd_Machine_joined_103
            · refine fr_sw (fun _ => ?_) (fun _ => ?_)
              · refine fp_lload_n (i := 1) (x := p1) dd_Machine_joined_104 rfl rfl (fr_pc (pc' := 105) rfl ?_)
                refine fp_lload_n (i := 3) (x := p2) dd_Machine_joined_105 rfl rfl (fr_pc (pc' := 106) rfl ?_)
                refine fp_lcmp dd_Machine_joined_106 (fr_pc (pc' := 107) rfl ?_)
                refine fr_if_le (tgt := 114) dd_Machine_joined_107 rfl (fun _ => ?_) (fun _ => ?_)
                · refine fp_lconst (v := (0 : Int64)) dd_Machine_joined_114 (by decide) (fr_pc (pc' := 115) rfl ?_)
                  exact fr_lret (v := (0 : Int64)) rfl rfl dd_Machine_joined_115
                · refine fr_pc (pc' := 110) rfl ?_
                  refine fp_lconst (v := (1 : Int64)) dd_Machine_joined_110 (by decide) (fr_pc (pc' := 111) rfl ?_)
                  refine fp_goto (tgt := 115) dd_Machine_joined_111 rfl ?_
                  exact fr_lret (v := (1 : Int64)) rfl rfl dd_Machine_joined_115
              · refine fr_sw (fun _ => ?_) (fun _ => ?_)
                · refine fp_lload_n (i := 1) (x := p1) dd_Machine_joined_116 rfl rfl (fr_pc (pc' := 117) rfl ?_)
                  refine fp_lload_n (i := 3) (x := p2) dd_Machine_joined_117 rfl rfl (fr_pc (pc' := 118) rfl ?_)
                  refine fp_lcmp dd_Machine_joined_118 (fr_pc (pc' := 119) rfl ?_)
                  refine fr_if_ne (tgt := 126) dd_Machine_joined_119 rfl (fun _ => ?_) (fun _ => ?_)
                  · refine fr_pc (pc' := 122) rfl ?_
                    refine fp_lconst (v := (1 : Int64)) dd_Machine_joined_122 (by decide) (fr_pc (pc' := 123) rfl ?_)
                    refine fp_goto (tgt := 127) dd_Machine_joined_123 rfl ?_
                    exact fr_lret (v := (1 : Int64)) rfl rfl dd_Machine_joined_127
                  · refine fp_lconst (v := (0 : Int64)) dd_Machine_joined_126 (by decide) (fr_pc (pc' := 127) rfl ?_)
                    exact fr_lret (v := (0 : Int64)) rfl rfl dd_Machine_joined_127
                · refine fr_pc (pc' := 128) rfl ?_
                  refine fp_ldc2 (v := (2000000000 : Int64)) dd_Machine_joined_128 sw_453 (fr_pc (pc' := 131) rfl ?_)
                  exact fr_lret (v := (2000000000 : Int64)) rfl rfl dd_Machine_joined_131
theorem mt_Machine_evaluate : sf_Mt ({ cls := "SplitFares$Machine", name := "evaluate", desc := "(LSplitFares$Program;II)I" } : Jvm.MethodName) prog_4_method_2_code 11 (some .int) 3 := ⟨sw_429, sw_5, ⟨by decide, by decide, by decide +kernel⟩, by decide⟩
theorem dd_Machine_evaluate_0 : decode prog_4_method_2_code 0 = .ok (.aload_n 1, 1) := by decide +kernel
theorem dd_Machine_evaluate_1 : decode prog_4_method_2_code 1 = .ok (.iload_n 2, 1) := by decide +kernel
theorem dd_Machine_evaluate_2 : decode prog_4_method_2_code 2 = .ok (.iload_n 3, 1) := by decide +kernel
theorem dd_Machine_evaluate_3 : decode prog_4_method_2_code 3 = .ok (.iconst 1, 1) := by decide +kernel
theorem dd_Machine_evaluate_4 : decode prog_4_method_2_code 4 = .ok (.iadd, 1) := by decide +kernel
theorem dd_Machine_evaluate_5 : decode prog_4_method_2_code 5 = .ok (.invokevirtual 18, 3) := by decide +kernel
theorem dd_Machine_evaluate_8 : decode prog_4_method_2_code 8 = .ok (.sipush 400, 3) := by decide +kernel
theorem dd_Machine_evaluate_11 : decode prog_4_method_2_code 11 = .ok (.invokestatic 24, 3) := by decide +kernel
theorem dd_Machine_evaluate_14 : decode prog_4_method_2_code 14 = .ok (.istore 4, 2) := by decide +kernel
theorem dd_Machine_evaluate_16 : decode prog_4_method_2_code 16 = .ok (.iconst 0, 1) := by decide +kernel
theorem dd_Machine_evaluate_17 : decode prog_4_method_2_code 17 = .ok (.istore 5, 2) := by decide +kernel
theorem dd_Machine_evaluate_19 : decode prog_4_method_2_code 19 = .ok (.aload_n 1, 1) := by decide +kernel
theorem dd_Machine_evaluate_20 : decode prog_4_method_2_code 20 = .ok (.iload_n 2, 1) := by decide +kernel
theorem dd_Machine_evaluate_21 : decode prog_4_method_2_code 21 = .ok (.iload_n 3, 1) := by decide +kernel
theorem dd_Machine_evaluate_22 : decode prog_4_method_2_code 22 = .ok (.invokevirtual 18, 3) := by decide +kernel
theorem dd_Machine_evaluate_25 : decode prog_4_method_2_code 25 = .ok (.istore 6, 2) := by decide +kernel
theorem dd_Machine_evaluate_27 : decode prog_4_method_2_code 27 = .ok (.iload 6, 2) := by decide +kernel
theorem dd_Machine_evaluate_29 : decode prog_4_method_2_code 29 = .ok (.iload 4, 2) := by decide +kernel
theorem dd_Machine_evaluate_31 : decode prog_4_method_2_code 31 = .ok (.if_icmp .ge 281, 3) := by decide +kernel
theorem dd_Machine_evaluate_34 : decode prog_4_method_2_code 34 = .ok (.aload_n 1, 1) := by decide +kernel
theorem dd_Machine_evaluate_35 : decode prog_4_method_2_code 35 = .ok (.iload 6, 2) := by decide +kernel
theorem dd_Machine_evaluate_37 : decode prog_4_method_2_code 37 = .ok (.invokevirtual 29, 3) := by decide +kernel
theorem dd_Machine_evaluate_40 : decode prog_4_method_2_code 40 = .ok (.istore 7, 2) := by decide +kernel
theorem dd_Machine_evaluate_42 : decode prog_4_method_2_code 42 = .ok (.aload_n 1, 1) := by decide +kernel
theorem dd_Machine_evaluate_43 : decode prog_4_method_2_code 43 = .ok (.iload 6, 2) := by decide +kernel
theorem dd_Machine_evaluate_45 : decode prog_4_method_2_code 45 = .ok (.invokevirtual 33, 3) := by decide +kernel
theorem dd_Machine_evaluate_48 : decode prog_4_method_2_code 48 = .ok (.istore 8, 2) := by decide +kernel
theorem dd_Machine_evaluate_50 : decode prog_4_method_2_code 50 = .ok (.iload 7, 2) := by decide +kernel
theorem dd_Machine_evaluate_52 : decode prog_4_method_2_code 52 = .ok (.ifCond .eq 9, 3) := by decide +kernel
theorem dd_Machine_evaluate_55 : decode prog_4_method_2_code 55 = .ok (.iload 7, 2) := by decide +kernel
theorem dd_Machine_evaluate_57 : decode prog_4_method_2_code 57 = .ok (.iconst 1, 1) := by decide +kernel
theorem dd_Machine_evaluate_58 : decode prog_4_method_2_code 58 = .ok (.if_icmp .ne 42, 3) := by decide +kernel
theorem dd_Machine_evaluate_100 : decode prog_4_method_2_code 100 = .ok (.iload 5, 2) := by decide +kernel
theorem dd_Machine_evaluate_102 : decode prog_4_method_2_code 102 = .ok (.iconst 1, 1) := by decide +kernel
theorem dd_Machine_evaluate_103 : decode prog_4_method_2_code 103 = .ok (.if_icmp .ge 6, 3) := by decide +kernel
theorem dd_Machine_evaluate_106 : decode prog_4_method_2_code 106 = .ok (.ldc 36, 2) := by decide +kernel
theorem dd_Machine_evaluate_108 : decode prog_4_method_2_code 108 = .ok (.ireturn, 1) := by decide +kernel
theorem dd_Machine_evaluate_109 : decode prog_4_method_2_code 109 = .ok (.iload 7, 2) := by decide +kernel
theorem dd_Machine_evaluate_111 : decode prog_4_method_2_code 111 = .ok (.iconst 2, 1) := by decide +kernel
theorem dd_Machine_evaluate_112 : decode prog_4_method_2_code 112 = .ok (.if_icmp .ne 33, 3) := by decide +kernel
theorem dd_Machine_evaluate_115 : decode prog_4_method_2_code 115 = .ok (.aload_n 0, 1) := by decide +kernel
theorem dd_Machine_evaluate_116 : decode prog_4_method_2_code 116 = .ok (.getfield 15, 3) := by decide +kernel
theorem dd_Machine_evaluate_119 : decode prog_4_method_2_code 119 = .ok (.iload 5, 2) := by decide +kernel
theorem dd_Machine_evaluate_121 : decode prog_4_method_2_code 121 = .ok (.iconst 1, 1) := by decide +kernel
theorem dd_Machine_evaluate_122 : decode prog_4_method_2_code 122 = .ok (.isub, 1) := by decide +kernel
theorem dd_Machine_evaluate_123 : decode prog_4_method_2_code 123 = .ok (.aload_n 0, 1) := by decide +kernel
theorem dd_Machine_evaluate_124 : decode prog_4_method_2_code 124 = .ok (.getfield 15, 3) := by decide +kernel
theorem dd_Machine_evaluate_127 : decode prog_4_method_2_code 127 = .ok (.iload 5, 2) := by decide +kernel
theorem dd_Machine_evaluate_129 : decode prog_4_method_2_code 129 = .ok (.iconst 1, 1) := by decide +kernel
theorem dd_Machine_evaluate_130 : decode prog_4_method_2_code 130 = .ok (.isub, 1) := by decide +kernel
theorem dd_Machine_evaluate_131 : decode prog_4_method_2_code 131 = .ok (.iaload, 1) := by decide +kernel
theorem dd_Machine_evaluate_132 : decode prog_4_method_2_code 132 = .ok (.iconst 1, 1) := by decide +kernel
theorem dd_Machine_evaluate_133 : decode prog_4_method_2_code 133 = .ok (.if_icmp .ne 7, 3) := by decide +kernel
theorem dd_Machine_evaluate_136 : decode prog_4_method_2_code 136 = .ok (.iconst 0, 1) := by decide +kernel
theorem dd_Machine_evaluate_137 : decode prog_4_method_2_code 137 = .ok (.goto 4, 3) := by decide +kernel
theorem dd_Machine_evaluate_140 : decode prog_4_method_2_code 140 = .ok (.iconst 1, 1) := by decide +kernel
theorem dd_Machine_evaluate_141 : decode prog_4_method_2_code 141 = .ok (.iastore, 1) := by decide +kernel
theorem dd_Machine_evaluate_142 : decode prog_4_method_2_code 142 = .ok (.goto 164, 3) := by decide +kernel
theorem dd_Machine_evaluate_145 : decode prog_4_method_2_code 145 = .ok (.iload 7, 2) := by decide +kernel
theorem dd_Machine_evaluate_147 : decode prog_4_method_2_code 147 = .ok (.iconst 3, 1) := by decide +kernel
theorem dd_Machine_evaluate_148 : decode prog_4_method_2_code 148 = .ok (.if_icmp .eq 9, 3) := by decide +kernel
theorem dd_Machine_evaluate_151 : decode prog_4_method_2_code 151 = .ok (.iload 7, 2) := by decide +kernel
theorem dd_Machine_evaluate_153 : decode prog_4_method_2_code 153 = .ok (.iconst 4, 1) := by decide +kernel
theorem dd_Machine_evaluate_154 : decode prog_4_method_2_code 154 = .ok (.if_icmp .ne 80, 3) := by decide +kernel
theorem dd_Machine_evaluate_234 : decode prog_4_method_2_code 234 = .ok (.iload 5, 2) := by decide +kernel
theorem dd_Machine_evaluate_236 : decode prog_4_method_2_code 236 = .ok (.iconst 2, 1) := by decide +kernel
theorem dd_Machine_evaluate_237 : decode prog_4_method_2_code 237 = .ok (.if_icmp .ge 6, 3) := by decide +kernel
theorem dd_Machine_evaluate_240 : decode prog_4_method_2_code 240 = .ok (.ldc 36, 2) := by decide +kernel
theorem dd_Machine_evaluate_242 : decode prog_4_method_2_code 242 = .ok (.ireturn, 1) := by decide +kernel
theorem dd_Machine_evaluate_243 : decode prog_4_method_2_code 243 = .ok (.iload 7, 2) := by decide +kernel
theorem dd_Machine_evaluate_245 : decode prog_4_method_2_code 245 = .ok (.aload_n 0, 1) := by decide +kernel
theorem dd_Machine_evaluate_246 : decode prog_4_method_2_code 246 = .ok (.getfield 15, 3) := by decide +kernel
theorem dd_Machine_evaluate_249 : decode prog_4_method_2_code 249 = .ok (.iload 5, 2) := by decide +kernel
theorem dd_Machine_evaluate_251 : decode prog_4_method_2_code 251 = .ok (.iconst 2, 1) := by decide +kernel
theorem dd_Machine_evaluate_252 : decode prog_4_method_2_code 252 = .ok (.isub, 1) := by decide +kernel
theorem dd_Machine_evaluate_253 : decode prog_4_method_2_code 253 = .ok (.iaload, 1) := by decide +kernel
theorem dd_Machine_evaluate_254 : decode prog_4_method_2_code 254 = .ok (.i2l, 1) := by decide +kernel
theorem dd_Machine_evaluate_255 : decode prog_4_method_2_code 255 = .ok (.aload_n 0, 1) := by decide +kernel
theorem dd_Machine_evaluate_256 : decode prog_4_method_2_code 256 = .ok (.getfield 15, 3) := by decide +kernel
theorem dd_Machine_evaluate_259 : decode prog_4_method_2_code 259 = .ok (.iload 5, 2) := by decide +kernel
theorem dd_Machine_evaluate_261 : decode prog_4_method_2_code 261 = .ok (.iconst 1, 1) := by decide +kernel
theorem dd_Machine_evaluate_262 : decode prog_4_method_2_code 262 = .ok (.isub, 1) := by decide +kernel
theorem dd_Machine_evaluate_263 : decode prog_4_method_2_code 263 = .ok (.iaload, 1) := by decide +kernel
theorem dd_Machine_evaluate_264 : decode prog_4_method_2_code 264 = .ok (.i2l, 1) := by decide +kernel
theorem dd_Machine_evaluate_265 : decode prog_4_method_2_code 265 = .ok (.invokestatic 43, 3) := by decide +kernel
theorem dd_Machine_evaluate_268 : decode prog_4_method_2_code 268 = .ok (.lstore 9, 2) := by decide +kernel
theorem dd_Machine_evaluate_270 : decode prog_4_method_2_code 270 = .ok (.lload 9, 2) := by decide +kernel
theorem dd_Machine_evaluate_272 : decode prog_4_method_2_code 272 = .ok (.ldc2_w 47, 3) := by decide +kernel
theorem dd_Machine_evaluate_275 : decode prog_4_method_2_code 275 = .ok (.lcmp, 1) := by decide +kernel
theorem dd_Machine_evaluate_276 : decode prog_4_method_2_code 276 = .ok (.ifCond .gt 12, 3) := by decide +kernel
theorem dd_Machine_evaluate_279 : decode prog_4_method_2_code 279 = .ok (.lload 9, 2) := by decide +kernel
theorem dd_Machine_evaluate_281 : decode prog_4_method_2_code 281 = .ok (.ldc2_w 49, 3) := by decide +kernel
theorem dd_Machine_evaluate_284 : decode prog_4_method_2_code 284 = .ok (.lcmp, 1) := by decide +kernel
theorem dd_Machine_evaluate_285 : decode prog_4_method_2_code 285 = .ok (.ifCond .ge 6, 3) := by decide +kernel
theorem dd_Machine_evaluate_291 : decode prog_4_method_2_code 291 = .ok (.iinc 5 (-1), 3) := by decide +kernel
theorem dd_Machine_evaluate_294 : decode prog_4_method_2_code 294 = .ok (.aload_n 0, 1) := by decide +kernel
theorem dd_Machine_evaluate_295 : decode prog_4_method_2_code 295 = .ok (.getfield 15, 3) := by decide +kernel
theorem dd_Machine_evaluate_298 : decode prog_4_method_2_code 298 = .ok (.iload 5, 2) := by decide +kernel
theorem dd_Machine_evaluate_300 : decode prog_4_method_2_code 300 = .ok (.iconst 1, 1) := by decide +kernel
theorem dd_Machine_evaluate_301 : decode prog_4_method_2_code 301 = .ok (.isub, 1) := by decide +kernel
theorem dd_Machine_evaluate_302 : decode prog_4_method_2_code 302 = .ok (.lload 9, 2) := by decide +kernel
theorem dd_Machine_evaluate_304 : decode prog_4_method_2_code 304 = .ok (.l2i, 1) := by decide +kernel
theorem dd_Machine_evaluate_305 : decode prog_4_method_2_code 305 = .ok (.iastore, 1) := by decide +kernel
theorem dd_Machine_evaluate_288 : decode prog_4_method_2_code 288 = .ok (.ldc 36, 2) := by decide +kernel
theorem dd_Machine_evaluate_290 : decode prog_4_method_2_code 290 = .ok (.ireturn, 1) := by decide +kernel
theorem dd_Machine_evaluate_157 : decode prog_4_method_2_code 157 = .ok (.aload_n 0, 1) := by decide +kernel
theorem dd_Machine_evaluate_158 : decode prog_4_method_2_code 158 = .ok (.getfield 15, 3) := by decide +kernel
theorem dd_Machine_evaluate_161 : decode prog_4_method_2_code 161 = .ok (.iload 5, 2) := by decide +kernel
theorem dd_Machine_evaluate_163 : decode prog_4_method_2_code 163 = .ok (.iconst 1, 1) := by decide +kernel
theorem dd_Machine_evaluate_164 : decode prog_4_method_2_code 164 = .ok (.isub, 1) := by decide +kernel
theorem dd_Machine_evaluate_165 : decode prog_4_method_2_code 165 = .ok (.iaload, 1) := by decide +kernel
theorem dd_Machine_evaluate_166 : decode prog_4_method_2_code 166 = .ok (.iconst 1, 1) := by decide +kernel
theorem dd_Machine_evaluate_167 : decode prog_4_method_2_code 167 = .ok (.if_icmp .ne 7, 3) := by decide +kernel
theorem dd_Machine_evaluate_170 : decode prog_4_method_2_code 170 = .ok (.iconst 1, 1) := by decide +kernel
theorem dd_Machine_evaluate_171 : decode prog_4_method_2_code 171 = .ok (.goto 4, 3) := by decide +kernel
theorem dd_Machine_evaluate_174 : decode prog_4_method_2_code 174 = .ok (.iconst 0, 1) := by decide +kernel
theorem dd_Machine_evaluate_175 : decode prog_4_method_2_code 175 = .ok (.iload 7, 2) := by decide +kernel
theorem dd_Machine_evaluate_177 : decode prog_4_method_2_code 177 = .ok (.iconst 3, 1) := by decide +kernel
theorem dd_Machine_evaluate_178 : decode prog_4_method_2_code 178 = .ok (.if_icmp .ne 7, 3) := by decide +kernel
theorem dd_Machine_evaluate_181 : decode prog_4_method_2_code 181 = .ok (.iconst 1, 1) := by decide +kernel
theorem dd_Machine_evaluate_182 : decode prog_4_method_2_code 182 = .ok (.goto 4, 3) := by decide +kernel
theorem dd_Machine_evaluate_185 : decode prog_4_method_2_code 185 = .ok (.iconst 0, 1) := by decide +kernel
theorem dd_Machine_evaluate_186 : decode prog_4_method_2_code 186 = .ok (.if_icmp .ne 7, 3) := by decide +kernel
theorem dd_Machine_evaluate_189 : decode prog_4_method_2_code 189 = .ok (.iconst 1, 1) := by decide +kernel
theorem dd_Machine_evaluate_190 : decode prog_4_method_2_code 190 = .ok (.goto 4, 3) := by decide +kernel
theorem dd_Machine_evaluate_193 : decode prog_4_method_2_code 193 = .ok (.iconst 0, 1) := by decide +kernel
theorem dd_Machine_evaluate_194 : decode prog_4_method_2_code 194 = .ok (.istore 9, 2) := by decide +kernel
theorem dd_Machine_evaluate_196 : decode prog_4_method_2_code 196 = .ok (.iload 6, 2) := by decide +kernel
theorem dd_Machine_evaluate_198 : decode prog_4_method_2_code 198 = .ok (.iload 9, 2) := by decide +kernel
theorem dd_Machine_evaluate_200 : decode prog_4_method_2_code 200 = .ok (.ifCond .eq 12, 3) := by decide +kernel
theorem dd_Machine_evaluate_203 : decode prog_4_method_2_code 203 = .ok (.iconst 0, 1) := by decide +kernel
theorem dd_Machine_evaluate_204 : decode prog_4_method_2_code 204 = .ok (.iload 8, 2) := by decide +kernel
theorem dd_Machine_evaluate_206 : decode prog_4_method_2_code 206 = .ok (.invokestatic 40, 3) := by decide +kernel
theorem dd_Machine_evaluate_209 : decode prog_4_method_2_code 209 = .ok (.goto 4, 3) := by decide +kernel
theorem dd_Machine_evaluate_212 : decode prog_4_method_2_code 212 = .ok (.iconst 0, 1) := by decide +kernel
theorem dd_Machine_evaluate_213 : decode prog_4_method_2_code 213 = .ok (.iadd, 1) := by decide +kernel
theorem dd_Machine_evaluate_214 : decode prog_4_method_2_code 214 = .ok (.istore 6, 2) := by decide +kernel
theorem dd_Machine_evaluate_216 : decode prog_4_method_2_code 216 = .ok (.iload 5, 2) := by decide +kernel
theorem dd_Machine_evaluate_218 : decode prog_4_method_2_code 218 = .ok (.iload 9, 2) := by decide +kernel
theorem dd_Machine_evaluate_220 : decode prog_4_method_2_code 220 = .ok (.ifCond .eq 7, 3) := by decide +kernel
theorem dd_Machine_evaluate_223 : decode prog_4_method_2_code 223 = .ok (.iconst 0, 1) := by decide +kernel
theorem dd_Machine_evaluate_224 : decode prog_4_method_2_code 224 = .ok (.goto 4, 3) := by decide +kernel
theorem dd_Machine_evaluate_227 : decode prog_4_method_2_code 227 = .ok (.iconst 1, 1) := by decide +kernel
theorem dd_Machine_evaluate_228 : decode prog_4_method_2_code 228 = .ok (.isub, 1) := by decide +kernel
theorem dd_Machine_evaluate_229 : decode prog_4_method_2_code 229 = .ok (.istore 5, 2) := by decide +kernel
theorem dd_Machine_evaluate_231 : decode prog_4_method_2_code 231 = .ok (.goto 75, 3) := by decide +kernel
theorem dd_Machine_evaluate_61 : decode prog_4_method_2_code 61 = .ok (.iload 5, 2) := by decide +kernel
theorem dd_Machine_evaluate_63 : decode prog_4_method_2_code 63 = .ok (.bipush 64, 2) := by decide +kernel
theorem dd_Machine_evaluate_65 : decode prog_4_method_2_code 65 = .ok (.if_icmp .lt 6, 3) := by decide +kernel
theorem dd_Machine_evaluate_68 : decode prog_4_method_2_code 68 = .ok (.ldc 36, 2) := by decide +kernel
theorem dd_Machine_evaluate_70 : decode prog_4_method_2_code 70 = .ok (.ireturn, 1) := by decide +kernel
theorem dd_Machine_evaluate_71 : decode prog_4_method_2_code 71 = .ok (.aload_n 0, 1) := by decide +kernel
theorem dd_Machine_evaluate_72 : decode prog_4_method_2_code 72 = .ok (.getfield 15, 3) := by decide +kernel
theorem dd_Machine_evaluate_75 : decode prog_4_method_2_code 75 = .ok (.iload 5, 2) := by decide +kernel
theorem dd_Machine_evaluate_77 : decode prog_4_method_2_code 77 = .ok (.iload 7, 2) := by decide +kernel
theorem dd_Machine_evaluate_79 : decode prog_4_method_2_code 79 = .ok (.ifCond .ne 8, 3) := by decide +kernel
theorem dd_Machine_evaluate_82 : decode prog_4_method_2_code 82 = .ok (.iload 8, 2) := by decide +kernel
theorem dd_Machine_evaluate_84 : decode prog_4_method_2_code 84 = .ok (.goto 9, 3) := by decide +kernel
theorem dd_Machine_evaluate_87 : decode prog_4_method_2_code 87 = .ok (.aload_n 0, 1) := by decide +kernel
theorem dd_Machine_evaluate_88 : decode prog_4_method_2_code 88 = .ok (.iload 8, 2) := by decide +kernel
theorem dd_Machine_evaluate_90 : decode prog_4_method_2_code 90 = .ok (.invokevirtual 37, 3) := by decide +kernel
theorem dd_Machine_evaluate_93 : decode prog_4_method_2_code 93 = .ok (.iastore, 1) := by decide +kernel
theorem dd_Machine_evaluate_94 : decode prog_4_method_2_code 94 = .ok (.iinc 5 1, 3) := by decide +kernel
theorem dd_Machine_evaluate_97 : decode prog_4_method_2_code 97 = .ok (.goto 209, 3) := by decide +kernel
theorem dd_Machine_evaluate_306 : decode prog_4_method_2_code 306 = .ok (.iinc 6 1, 3) := by decide +kernel
theorem dd_Machine_evaluate_309 : decode prog_4_method_2_code 309 = .ok (.goto (-282), 3) := by decide +kernel
theorem dd_Machine_evaluate_312 : decode prog_4_method_2_code 312 = .ok (.iload 5, 2) := by decide +kernel
theorem dd_Machine_evaluate_314 : decode prog_4_method_2_code 314 = .ok (.ifCond .le 12, 3) := by decide +kernel
theorem dd_Machine_evaluate_317 : decode prog_4_method_2_code 317 = .ok (.aload_n 0, 1) := by decide +kernel
theorem dd_Machine_evaluate_318 : decode prog_4_method_2_code 318 = .ok (.getfield 15, 3) := by decide +kernel
theorem dd_Machine_evaluate_321 : decode prog_4_method_2_code 321 = .ok (.iconst 0, 1) := by decide +kernel
theorem dd_Machine_evaluate_322 : decode prog_4_method_2_code 322 = .ok (.iaload, 1) := by decide +kernel
theorem dd_Machine_evaluate_323 : decode prog_4_method_2_code 323 = .ok (.goto 4, 3) := by decide +kernel
theorem dd_Machine_evaluate_326 : decode prog_4_method_2_code 326 = .ok (.iconst 1, 1) := by decide +kernel
theorem dd_Machine_evaluate_327 : decode prog_4_method_2_code 327 = .ok (.ireturn, 1) := by decide +kernel
def jx_Machine_evaluate (p0 : Option Nat) (p1 : Option Nat) (p2 : Int32) (p3 : Int32) : sf_M (Int32) :=
  sf_bnd (sf_rc 6 p1 (jx_Program_noted p1 p2 (p3 + (1 : Int32)))) fun x1 =>
  sf_bnd (jx_Math_min x1 (400 : Int32)) fun x2 =>
  sf_bnd (sf_rc 6 p1 (jx_Program_noted p1 p2 p3)) fun x3 =>
  sf_or (α := Int32) (β := (Int32)) (sf_loop (β := (Int32 × Int32)) (γ := (Int32 ⊕ (Int32))) (fun b4 =>
  if x2 ≤ b4.2 then (
  sf_ret (.inr (.inr b4.1))
  ) else (
  sf_bnd (sf_rc 6 p1 (jx_Program_opAt p1 b4.2)) fun x6 =>
  sf_bnd (sf_rc 6 p1 (jx_Program_argAt p1 b4.2)) fun x7 =>
  sf_or (α := ((Int32 × Int32) ⊕ (Int32 ⊕ (Int32)))) (β := (Int32 × Int32)) (
  if x6 = 0 then (
  sf_ret (.inr (b4.1, b4.2))
  ) else (
  if x6 = (1 : Int32) then (
  sf_ret (.inr (b4.1, b4.2))
  ) else (
  if (1 : Int32) ≤ b4.1 then (
  if x6 = (2 : Int32) then (
  sf_bnd (sf_gR 3 1 p0) fun x12 =>
  sf_bnd (sf_gR 3 1 p0) fun x13 =>
  sf_bnd (sf_aI 0 x13 (b4.1 - (1 : Int32))) fun x14 =>
  sf_bnd (α := (Int32)) (
  if x14 = (1 : Int32) then (
  sf_ret (0 : Int32)
  ) else (
  sf_ret (1 : Int32)
  )
  ) (fun v16 =>
  sf_bnd (sf_sI 0 x12 (b4.1 - (1 : Int32)) v16) fun _ =>
  sf_bnd (sf_ret (b4.2 + (1 : Int32))) fun y17 =>
  sf_ret (.inl (.inl (b4.1, y17)))
  )
  ) else (
  sf_or (α := (((Int32 × Int32) ⊕ (Int32 ⊕ (Int32))) ⊕ (Int32 × Int32))) (β := (Int32 × Int32)) (
  if x6 = (3 : Int32) then (
  sf_ret (.inr (b4.1, b4.2))
  ) else (
  if x6 = (4 : Int32) then (
  sf_ret (.inr (b4.1, b4.2))
  ) else (
  if (2 : Int32) ≤ b4.1 then (
  sf_bnd (sf_gR 3 1 p0) fun x21 =>
  sf_bnd (sf_aI 0 x21 (b4.1 - (2 : Int32))) fun x22 =>
  sf_bnd (sf_gR 3 1 p0) fun x23 =>
  sf_bnd (sf_aI 0 x23 (b4.1 - (1 : Int32))) fun x24 =>
  sf_bnd (jx_Machine_joined x6 x22.toInt64 x24.toInt64) fun x25 =>
  if 0 < (lg_cmp x25 (1000000000 : Int64)) then (
  sf_ret (.inl (.inl (.inr (.inl (-2000000000 : Int32)))))
  ) else (
  if 0 ≤ (lg_cmp x25 (-1000000000 : Int64)) then (
  sf_bnd (sf_ret (b4.1 + (-1 : Int32))) fun y28 =>
  sf_bnd (sf_gR 3 1 p0) fun x29 =>
  sf_bnd (sf_sI 0 x29 (y28 - (1 : Int32)) x25.toInt32) fun _ =>
  sf_bnd (sf_ret (b4.2 + (1 : Int32))) fun y30 =>
  sf_ret (.inl (.inl (.inl (y28, y30))))
  ) else (
  sf_ret (.inl (.inl (.inr (.inl (-2000000000 : Int32)))))
  )
  )
  ) else (
  sf_ret (.inl (.inl (.inr (.inl (-2000000000 : Int32)))))
  )
  )
  )
  ) (fun v31 =>
  sf_bnd (sf_gR 3 1 p0) fun x32 =>
  sf_bnd (sf_aI 0 x32 (v31.1 - (1 : Int32))) fun x33 =>
  sf_bnd (α := (Int32)) (
  if x33 = (1 : Int32) then (
  sf_ret (1 : Int32)
  ) else (
  sf_ret (0 : Int32)
  )
  ) (fun v35 =>
  sf_bnd (α := (Int32)) (
  if x6 = (3 : Int32) then (
  sf_ret (1 : Int32)
  ) else (
  sf_ret (0 : Int32)
  )
  ) (fun v37 =>
  sf_bnd (α := (Int32)) (
  if v35 = v37 then (
  sf_ret (1 : Int32)
  ) else (
  sf_ret (0 : Int32)
  )
  ) (fun v39 =>
  sf_bnd (α := (Int32)) (
  if v39 = 0 then (
  sf_ret (0 : Int32)
  ) else (
  sf_bnd (jx_Math_max (0 : Int32) x7) fun x41 =>
  sf_ret x41
  )
  ) (fun v42 =>
  sf_bnd (sf_ret ((v31.2 + v42))) fun y43 =>
  if v39 = 0 then (
  sf_bnd (sf_ret ((v31.1 - (1 : Int32)))) fun y45 =>
  sf_bnd (sf_ret (y43 + (1 : Int32))) fun y46 =>
  sf_ret (.inl (.inl (y45, y46)))
  ) else (
  sf_bnd (sf_ret ((v31.1 - (0 : Int32)))) fun y47 =>
  sf_bnd (sf_ret (y43 + (1 : Int32))) fun y48 =>
  sf_ret (.inl (.inl (y47, y48)))
  )
  )
  )
  )
  )
  )
  )
  ) else (
  sf_ret (.inl (.inr (.inl (-2000000000 : Int32))))
  )
  )
  )
  ) (fun v49 =>
  if v49.1 < (64 : Int32) then (
  sf_bnd (sf_gR 3 1 p0) fun x51 =>
  sf_bnd (α := (Int32)) (
  if x6 = 0 then (
  sf_ret x7
  ) else (
  sf_bnd (sf_rc 3 p0 (jx_Machine_wordAt p0 x7)) fun x53 =>
  sf_ret x53
  )
  ) (fun v54 =>
  sf_bnd (sf_sI 0 x51 v49.1 v54) fun _ =>
  sf_bnd (sf_ret (v49.1 + (1 : Int32))) fun y55 =>
  sf_bnd (sf_ret (v49.2 + (1 : Int32))) fun y56 =>
  sf_ret (.inl (y55, y56))
  )
  ) else (
  sf_ret (.inr (.inl (-2000000000 : Int32)))
  )
  )
  )
  ) sf_fuel ((0 : Int32), x3)) (fun e57 =>
  if e57 ≤ 0 then (
  sf_ret (1 : Int32)
  ) else (
  sf_bnd (sf_gR 3 1 p0) fun x59 =>
  sf_bnd (sf_aI 0 x59 (0 : Int32)) fun x60 =>
  sf_ret x60
  )
  )
set_option maxRecDepth 20000 in
set_option maxHeartbeats 4000000 in
theorem ok_Machine_evaluate (p0 : Option Nat) (p1 : Option Nat) (p2 : Int32) (p3 : Int32) : sf_Ok ({ cls := "SplitFares$Machine", name := "evaluate", desc := "(LSplitFares$Program;II)I" } : Jvm.MethodName) prog_4_method_2_code 11 (some .int) 1 [sf_rv p0, sf_rv p1, .int p2, .int p3] (jx_Machine_evaluate p0 p1 p2 p3) (fun r => some (.int r)) := by
  refine sf_Ok.of (env := [some (sf_rv p0), some (sf_rv p1), some (.int p2), some (.int p3), none, none, none, none, none, none, none]) (plainFor_of_name (by decide)) [false, false, false, false] (fun G => ⟨pk_r, pk_r, pk_i, pk_i, trivial⟩) (Nat.le_of_ble_eq_true rfl) rfl (fun X => ?_)
  unfold jx_Machine_evaluate
  refine fp_aload_n (i := 1) (r := p1) dd_Machine_evaluate_0 rfl rfl (fr_pc (pc' := 1) rfl ?_)
  refine fp_iload_n (i := 2) (x := p2) dd_Machine_evaluate_1 rfl rfl (fr_pc (pc' := 2) rfl ?_)
  refine fp_iload_n (i := 3) (x := p3) dd_Machine_evaluate_2 rfl rfl (fr_pc (pc' := 3) rfl ?_)
  refine fp_iconst (v := (1 : Int32)) dd_Machine_evaluate_3 (by decide) (fr_pc (pc' := 4) rfl ?_)
  refine fp_iadd dd_Machine_evaluate_4 (fr_pc (pc' := 5) rfl ?_)
  refine fr_callV (stk := []) (As := [.int p2, .int (p3 + (1 : Int32))]) cl_6 (ok_Program_noted p1 p2 (p3 + (1 : Int32))) mt_Program_noted rfl rfl sw_430 sw_423 sw_424 (by decide) (Nat.le_of_ble_eq_true rfl) dd_Machine_evaluate_5 (fun x1 => fr_to (pc' := 8) (env' := [some (sf_rv p0), some (sf_rv p1), some (.int p2), some (.int p3), none, none, none, none, none, none, none]) (stk' := [.int x1]) rfl rfl rfl ?_)
  refine fp_sipush (v := (400 : Int32)) dd_Machine_evaluate_8 (by decide) (fr_pc (pc' := 11) rfl ?_)
  refine fr_callS (stk := []) (ok_Math_min x1 (400 : Int32)) mt_Math_min rfl rfl sw_431 sw_432 (by decide) (Nat.le_of_ble_eq_true rfl) dd_Machine_evaluate_11 (fun x2 => fr_to (pc' := 14) (env' := [some (sf_rv p0), some (sf_rv p1), some (.int p2), some (.int p3), none, none, none, none, none, none, none]) (stk' := [.int x2]) rfl rfl rfl ?_)
  refine fp_istore (i := 4) dd_Machine_evaluate_14 (Nat.le_of_ble_eq_true rfl) (fun _ => c1_i rfl) (fr_to (pc' := 16) (env' := [some (sf_rv p0), some (sf_rv p1), some (.int p2), some (.int p3), some (.int x2), none, none, none, none, none, none]) (stk' := []) rfl rfl rfl ?_)
  refine fp_iconst (v := (0 : Int32)) dd_Machine_evaluate_16 (by decide) (fr_pc (pc' := 17) rfl ?_)
  refine fp_istore (i := 5) dd_Machine_evaluate_17 (Nat.le_of_ble_eq_true rfl) (fun _ => c1_i rfl) (fr_to (pc' := 19) (env' := [some (sf_rv p0), some (sf_rv p1), some (.int p2), some (.int p3), some (.int x2), some (.int (0 : Int32)), none, none, none, none, none]) (stk' := []) rfl rfl rfl ?_)
  refine fp_aload_n (i := 1) (r := p1) dd_Machine_evaluate_19 rfl rfl (fr_pc (pc' := 20) rfl ?_)
  refine fp_iload_n (i := 2) (x := p2) dd_Machine_evaluate_20 rfl rfl (fr_pc (pc' := 21) rfl ?_)
  refine fp_iload_n (i := 3) (x := p3) dd_Machine_evaluate_21 rfl rfl (fr_pc (pc' := 22) rfl ?_)
  refine fr_callV (stk := []) (As := [.int p2, .int p3]) cl_6 (ok_Program_noted p1 p2 p3) mt_Program_noted rfl rfl sw_430 sw_423 sw_424 (by decide) (Nat.le_of_ble_eq_true rfl) dd_Machine_evaluate_22 (fun x3 => fr_to (pc' := 25) (env' := [some (sf_rv p0), some (sf_rv p1), some (.int p2), some (.int p3), some (.int x2), some (.int (0 : Int32)), none, none, none, none, none]) (stk' := [.int x3]) rfl rfl rfl ?_)
  refine fp_istore (i := 6) dd_Machine_evaluate_25 (Nat.le_of_ble_eq_true rfl) (fun _ => c1_i rfl) (fr_to (pc' := 27) (env' := [some (sf_rv p0), some (sf_rv p1), some (.int p2), some (.int p3), some (.int x2), some (.int (0 : Int32)), some (.int x3), none, none, none, none]) (stk' := []) rfl rfl rfl ?_)
  refine fr_to (pc' := 27) (env' := [some (sf_rv p0), some (sf_rv p1), some (.int p2), some (.int p3), some (.int x2), some (.int (0 : Int32)), some (.int x3), none, none, none, none]) (stk' := []) rfl rfl rfl ?_
  refine fr_or (l1 := (fun (e57 : (Int32)) => sf_p 312 [some (sf_rv p0), some (sf_rv p1), some (.int p2), some (.int p3), some (.int x2), some (.int e57), none, none, none, none, none] [])) (fr_loop (Lb := (fun (b4 : (Int32 × Int32)) => sf_p 27 [some (sf_rv p0), some (sf_rv p1), some (.int p2), some (.int p3), some (.int x2), some (.int b4.1), some (.int b4.2), none, none, none, none] [])) (fun b4 => ?_) _ _) (fun e57 => ?_)
  · refine fp_iload (i := 6) (x := b4.2) dd_Machine_evaluate_27 rfl (fr_pc (pc' := 29) rfl ?_)
    refine fp_iload (i := 4) (x := x2) dd_Machine_evaluate_29 rfl (fr_pc (pc' := 31) rfl ?_)
    refine fr_icmp_ge (tgt := 312) dd_Machine_evaluate_31 rfl (fun _ => ?_) (fun _ => ?_)
    · refine fr_wk [true, true, true, true, true, true, false, false, false, false, false] ?_
      exact fr_ret rfl
    · refine fr_pc (pc' := 34) rfl ?_
      refine fp_aload_n (i := 1) (r := p1) dd_Machine_evaluate_34 rfl rfl (fr_pc (pc' := 35) rfl ?_)
      refine fp_iload (i := 6) (x := b4.2) dd_Machine_evaluate_35 rfl (fr_pc (pc' := 37) rfl ?_)
      refine fr_callV (stk := []) (As := [.int b4.2]) cl_6 (ok_Program_opAt p1 b4.2) mt_Program_opAt rfl rfl sw_434 sw_435 sw_436 (by decide) (Nat.le_of_ble_eq_true rfl) dd_Machine_evaluate_37 (fun x6 => fr_to (pc' := 40) (env' := [some (sf_rv p0), some (sf_rv p1), some (.int p2), some (.int p3), some (.int x2), some (.int b4.1), some (.int b4.2), none, none, none, none]) (stk' := [.int x6]) rfl rfl rfl ?_)
      refine fp_istore (i := 7) dd_Machine_evaluate_40 (Nat.le_of_ble_eq_true rfl) (fun _ => c1_i rfl) (fr_to (pc' := 42) (env' := [some (sf_rv p0), some (sf_rv p1), some (.int p2), some (.int p3), some (.int x2), some (.int b4.1), some (.int b4.2), some (.int x6), none, none, none]) (stk' := []) rfl rfl rfl ?_)
      refine fp_aload_n (i := 1) (r := p1) dd_Machine_evaluate_42 rfl rfl (fr_pc (pc' := 43) rfl ?_)
      refine fp_iload (i := 6) (x := b4.2) dd_Machine_evaluate_43 rfl (fr_pc (pc' := 45) rfl ?_)
      refine fr_callV (stk := []) (As := [.int b4.2]) cl_6 (ok_Program_argAt p1 b4.2) mt_Program_argAt rfl rfl sw_438 sw_439 sw_440 (by decide) (Nat.le_of_ble_eq_true rfl) dd_Machine_evaluate_45 (fun x7 => fr_to (pc' := 48) (env' := [some (sf_rv p0), some (sf_rv p1), some (.int p2), some (.int p3), some (.int x2), some (.int b4.1), some (.int b4.2), some (.int x6), none, none, none]) (stk' := [.int x7]) rfl rfl rfl ?_)
      refine fp_istore (i := 8) dd_Machine_evaluate_48 (Nat.le_of_ble_eq_true rfl) (fun _ => c1_i rfl) (fr_to (pc' := 50) (env' := [some (sf_rv p0), some (sf_rv p1), some (.int p2), some (.int p3), some (.int x2), some (.int b4.1), some (.int b4.2), some (.int x6), some (.int x7), none, none]) (stk' := []) rfl rfl rfl ?_)
      refine fp_iload (i := 7) (x := x6) dd_Machine_evaluate_50 rfl (fr_pc (pc' := 52) rfl ?_)
      refine fr_or (l1 := (fun (v49 : (Int32 × Int32)) => sf_p 61 [some (sf_rv p0), some (sf_rv p1), some (.int p2), some (.int p3), some (.int x2), some (.int v49.1), some (.int v49.2), some (.int x6), some (.int x7), none, none] [])) ?_ (fun v49 => ?_)
      · refine fr_if_eq (tgt := 61) dd_Machine_evaluate_52 rfl (fun _ => ?_) (fun _ => ?_)
        · exact fr_ret rfl
        · refine fr_pc (pc' := 55) rfl ?_
          refine fp_iload (i := 7) (x := x6) dd_Machine_evaluate_55 rfl (fr_pc (pc' := 57) rfl ?_)
          refine fp_iconst (v := (1 : Int32)) dd_Machine_evaluate_57 (by decide) (fr_pc (pc' := 58) rfl ?_)
          refine fr_icmp_ne (tgt := 100) dd_Machine_evaluate_58 rfl (fun _ => ?_) (fun _ => ?_)
          · refine fr_pc (pc' := 61) rfl ?_
            exact fr_ret rfl
          · refine fp_iload (i := 5) (x := b4.1) dd_Machine_evaluate_100 rfl (fr_pc (pc' := 102) rfl ?_)
            refine fp_iconst (v := (1 : Int32)) dd_Machine_evaluate_102 (by decide) (fr_pc (pc' := 103) rfl ?_)
            refine fr_icmp_ge (tgt := 109) dd_Machine_evaluate_103 rfl (fun _ => ?_) (fun _ => ?_)
            · refine fp_iload (i := 7) (x := x6) dd_Machine_evaluate_109 rfl (fr_pc (pc' := 111) rfl ?_)
              refine fp_iconst (v := (2 : Int32)) dd_Machine_evaluate_111 (by decide) (fr_pc (pc' := 112) rfl ?_)
              refine fr_icmp_ne (tgt := 145) dd_Machine_evaluate_112 rfl (fun _ => ?_) (fun _ => ?_)
              · refine fr_pc (pc' := 115) rfl ?_
                refine fp_aload_n (i := 0) (r := p0) dd_Machine_evaluate_115 rfl rfl (fr_pc (pc' := 116) rfl ?_)
                refine fr_gR cl_3 1 (by decide) rfl sw_79 dd_Machine_evaluate_116 (fun x12 => fr_pc (pc' := 119) rfl ?_)
                refine fp_iload (i := 5) (x := b4.1) dd_Machine_evaluate_119 rfl (fr_pc (pc' := 121) rfl ?_)
                refine fp_iconst (v := (1 : Int32)) dd_Machine_evaluate_121 (by decide) (fr_pc (pc' := 122) rfl ?_)
                refine fp_isub dd_Machine_evaluate_122 (fr_pc (pc' := 123) rfl ?_)
                refine fp_aload_n (i := 0) (r := p0) dd_Machine_evaluate_123 rfl rfl (fr_pc (pc' := 124) rfl ?_)
                refine fr_gR cl_3 1 (by decide) rfl sw_79 dd_Machine_evaluate_124 (fun x13 => fr_pc (pc' := 127) rfl ?_)
                refine fp_iload (i := 5) (x := b4.1) dd_Machine_evaluate_127 rfl (fr_pc (pc' := 129) rfl ?_)
                refine fp_iconst (v := (1 : Int32)) dd_Machine_evaluate_129 (by decide) (fr_pc (pc' := 130) rfl ?_)
                refine fp_isub dd_Machine_evaluate_130 (fr_pc (pc' := 131) rfl ?_)
                refine fr_aI0 dd_Machine_evaluate_131 (fun x14 => fr_pc (pc' := 132) rfl ?_)
                refine fp_iconst (v := (1 : Int32)) dd_Machine_evaluate_132 (by decide) (fr_pc (pc' := 133) rfl ?_)
                refine fr_bnd (l1 := (fun (v16 : (Int32)) => sf_p 141 [some (sf_rv p0), some (sf_rv p1), some (.int p2), some (.int p3), some (.int x2), some (.int b4.1), some (.int b4.2), some (.int x6), some (.int x7), none, none] [.int v16, .int (b4.1 - (1 : Int32)), sf_rv x12])) ?_ (fun v16 => ?_)
                · refine fr_icmp_ne (tgt := 140) dd_Machine_evaluate_133 rfl (fun _ => ?_) (fun _ => ?_)
                  · refine fr_pc (pc' := 136) rfl ?_
                    refine fp_iconst (v := (0 : Int32)) dd_Machine_evaluate_136 (by decide) (fr_pc (pc' := 137) rfl ?_)
                    refine fp_goto (tgt := 141) dd_Machine_evaluate_137 rfl ?_
                    exact fr_ret rfl
                  · refine fp_iconst (v := (1 : Int32)) dd_Machine_evaluate_140 (by decide) (fr_pc (pc' := 141) rfl ?_)
                    exact fr_ret rfl
                · refine fr_sI0 dd_Machine_evaluate_141 (fr_pc (pc' := 142) rfl ?_)
                  refine fp_goto (tgt := 306) dd_Machine_evaluate_142 rfl ?_
                  refine fr_niinc (i := 6) (x := b4.2) (w := (1 : Int32)) dd_Machine_evaluate_306 rfl (by decide) (Nat.le_of_ble_eq_true rfl) (fun _ => c1_i rfl) (fun y17 => fr_to (pc' := 309) (env' := [some (sf_rv p0), some (sf_rv p1), some (.int p2), some (.int p3), some (.int x2), some (.int b4.1), some (.int y17), some (.int x6), some (.int x7), none, none]) (stk' := []) rfl rfl rfl ?_)
                  refine fp_goto (tgt := 27) dd_Machine_evaluate_309 rfl ?_
                  refine fr_wk [true, true, true, true, true, true, true, false, false, false, false] ?_
                  exact fr_ret rfl
              · refine fp_iload (i := 7) (x := x6) dd_Machine_evaluate_145 rfl (fr_pc (pc' := 147) rfl ?_)
                refine fp_iconst (v := (3 : Int32)) dd_Machine_evaluate_147 (by decide) (fr_pc (pc' := 148) rfl ?_)
                refine fr_or (l1 := (fun (v31 : (Int32 × Int32)) => sf_p 157 [some (sf_rv p0), some (sf_rv p1), some (.int p2), some (.int p3), some (.int x2), some (.int v31.1), some (.int v31.2), some (.int x6), some (.int x7), none, none] [])) ?_ (fun v31 => ?_)
                · refine fr_icmp_eq (tgt := 157) dd_Machine_evaluate_148 rfl (fun _ => ?_) (fun _ => ?_)
                  · exact fr_ret rfl
                  · refine fr_pc (pc' := 151) rfl ?_
                    refine fp_iload (i := 7) (x := x6) dd_Machine_evaluate_151 rfl (fr_pc (pc' := 153) rfl ?_)
                    refine fp_iconst (v := (4 : Int32)) dd_Machine_evaluate_153 (by decide) (fr_pc (pc' := 154) rfl ?_)
                    refine fr_icmp_ne (tgt := 234) dd_Machine_evaluate_154 rfl (fun _ => ?_) (fun _ => ?_)
                    · refine fr_pc (pc' := 157) rfl ?_
                      exact fr_ret rfl
                    · refine fp_iload (i := 5) (x := b4.1) dd_Machine_evaluate_234 rfl (fr_pc (pc' := 236) rfl ?_)
                      refine fp_iconst (v := (2 : Int32)) dd_Machine_evaluate_236 (by decide) (fr_pc (pc' := 237) rfl ?_)
                      refine fr_icmp_ge (tgt := 243) dd_Machine_evaluate_237 rfl (fun _ => ?_) (fun _ => ?_)
                      · refine fp_iload (i := 7) (x := x6) dd_Machine_evaluate_243 rfl (fr_pc (pc' := 245) rfl ?_)
                        refine fp_aload_n (i := 0) (r := p0) dd_Machine_evaluate_245 rfl rfl (fr_pc (pc' := 246) rfl ?_)
                        refine fr_gR cl_3 1 (by decide) rfl sw_79 dd_Machine_evaluate_246 (fun x21 => fr_pc (pc' := 249) rfl ?_)
                        refine fp_iload (i := 5) (x := b4.1) dd_Machine_evaluate_249 rfl (fr_pc (pc' := 251) rfl ?_)
                        refine fp_iconst (v := (2 : Int32)) dd_Machine_evaluate_251 (by decide) (fr_pc (pc' := 252) rfl ?_)
                        refine fp_isub dd_Machine_evaluate_252 (fr_pc (pc' := 253) rfl ?_)
                        refine fr_aI0 dd_Machine_evaluate_253 (fun x22 => fr_pc (pc' := 254) rfl ?_)
                        refine fp_i2l dd_Machine_evaluate_254 (fr_pc (pc' := 255) rfl ?_)
                        refine fp_aload_n (i := 0) (r := p0) dd_Machine_evaluate_255 rfl rfl (fr_pc (pc' := 256) rfl ?_)
                        refine fr_gR cl_3 1 (by decide) rfl sw_79 dd_Machine_evaluate_256 (fun x23 => fr_pc (pc' := 259) rfl ?_)
                        refine fp_iload (i := 5) (x := b4.1) dd_Machine_evaluate_259 rfl (fr_pc (pc' := 261) rfl ?_)
                        refine fp_iconst (v := (1 : Int32)) dd_Machine_evaluate_261 (by decide) (fr_pc (pc' := 262) rfl ?_)
                        refine fp_isub dd_Machine_evaluate_262 (fr_pc (pc' := 263) rfl ?_)
                        refine fr_aI0 dd_Machine_evaluate_263 (fun x24 => fr_pc (pc' := 264) rfl ?_)
                        refine fp_i2l dd_Machine_evaluate_264 (fr_pc (pc' := 265) rfl ?_)
                        refine fr_callS (stk := []) (ok_Machine_joined x6 x22.toInt64 x24.toInt64) mt_Machine_joined rfl rfl sw_450 sw_451 (by decide) (Nat.le_of_ble_eq_true rfl) dd_Machine_evaluate_265 (fun x25 => fr_to (pc' := 268) (env' := [some (sf_rv p0), some (sf_rv p1), some (.int p2), some (.int p3), some (.int x2), some (.int b4.1), some (.int b4.2), some (.int x6), some (.int x7), none, none]) (stk' := [.long x25]) rfl rfl rfl ?_)
                        refine fp_lstore (i := 9) dd_Machine_evaluate_268 (Nat.le_of_ble_eq_true rfl) (fun _ => c1_i rfl) (fr_to (pc' := 270) (env' := [some (sf_rv p0), some (sf_rv p1), some (.int p2), some (.int p3), some (.int x2), some (.int b4.1), some (.int b4.2), some (.int x6), some (.int x7), some (.long x25), none]) (stk' := []) rfl rfl rfl ?_)
                        refine fp_lload (i := 9) (x := x25) dd_Machine_evaluate_270 rfl (fr_pc (pc' := 272) rfl ?_)
                        refine fp_ldc2 (v := (1000000000 : Int64)) dd_Machine_evaluate_272 sw_454 (fr_pc (pc' := 275) rfl ?_)
                        refine fp_lcmp dd_Machine_evaluate_275 (fr_pc (pc' := 276) rfl ?_)
                        refine fr_if_gt (tgt := 288) dd_Machine_evaluate_276 rfl (fun _ => ?_) (fun _ => ?_)
                        · refine fp_ldc (v := (-2000000000 : Int32)) dd_Machine_evaluate_288 sw_442 (fr_pc (pc' := 290) rfl ?_)
                          exact fr_iret (v := (-2000000000 : Int32)) rfl rfl dd_Machine_evaluate_290
                        · refine fr_pc (pc' := 279) rfl ?_
                          refine fp_lload (i := 9) (x := x25) dd_Machine_evaluate_279 rfl (fr_pc (pc' := 281) rfl ?_)
                          refine fp_ldc2 (v := (-1000000000 : Int64)) dd_Machine_evaluate_281 sw_455 (fr_pc (pc' := 284) rfl ?_)
                          refine fp_lcmp dd_Machine_evaluate_284 (fr_pc (pc' := 285) rfl ?_)
                          refine fr_if_ge (tgt := 291) dd_Machine_evaluate_285 rfl (fun _ => ?_) (fun _ => ?_)
                          · refine fr_niinc (i := 5) (x := b4.1) (w := (-1 : Int32)) dd_Machine_evaluate_291 rfl (by decide) (Nat.le_of_ble_eq_true rfl) (fun _ => c1_i rfl) (fun y28 => fr_to (pc' := 294) (env' := [some (sf_rv p0), some (sf_rv p1), some (.int p2), some (.int p3), some (.int x2), some (.int y28), some (.int b4.2), some (.int x6), some (.int x7), some (.long x25), none]) (stk' := []) rfl rfl rfl ?_)
                            refine fp_aload_n (i := 0) (r := p0) dd_Machine_evaluate_294 rfl rfl (fr_pc (pc' := 295) rfl ?_)
                            refine fr_gR cl_3 1 (by decide) rfl sw_79 dd_Machine_evaluate_295 (fun x29 => fr_pc (pc' := 298) rfl ?_)
                            refine fp_iload (i := 5) (x := y28) dd_Machine_evaluate_298 rfl (fr_pc (pc' := 300) rfl ?_)
                            refine fp_iconst (v := (1 : Int32)) dd_Machine_evaluate_300 (by decide) (fr_pc (pc' := 301) rfl ?_)
                            refine fp_isub dd_Machine_evaluate_301 (fr_pc (pc' := 302) rfl ?_)
                            refine fp_lload (i := 9) (x := x25) dd_Machine_evaluate_302 rfl (fr_pc (pc' := 304) rfl ?_)
                            refine fp_l2i dd_Machine_evaluate_304 (fr_pc (pc' := 305) rfl ?_)
                            refine fr_sI0 dd_Machine_evaluate_305 (fr_pc (pc' := 306) rfl ?_)
                            refine fr_niinc (i := 6) (x := b4.2) (w := (1 : Int32)) dd_Machine_evaluate_306 rfl (by decide) (Nat.le_of_ble_eq_true rfl) (fun _ => c1_i rfl) (fun y30 => fr_to (pc' := 309) (env' := [some (sf_rv p0), some (sf_rv p1), some (.int p2), some (.int p3), some (.int x2), some (.int y28), some (.int y30), some (.int x6), some (.int x7), some (.long x25), none]) (stk' := []) rfl rfl rfl ?_)
                            refine fp_goto (tgt := 27) dd_Machine_evaluate_309 rfl ?_
                            refine fr_wk [true, true, true, true, true, true, true, false, false, false, false] ?_
                            exact fr_ret rfl
                          · refine fr_pc (pc' := 288) rfl ?_
                            refine fp_ldc (v := (-2000000000 : Int32)) dd_Machine_evaluate_288 sw_442 (fr_pc (pc' := 290) rfl ?_)
                            exact fr_iret (v := (-2000000000 : Int32)) rfl rfl dd_Machine_evaluate_290
                      · refine fr_pc (pc' := 240) rfl ?_
                        refine fp_ldc (v := (-2000000000 : Int32)) dd_Machine_evaluate_240 sw_442 (fr_pc (pc' := 242) rfl ?_)
                        exact fr_iret (v := (-2000000000 : Int32)) rfl rfl dd_Machine_evaluate_242
                · refine fp_aload_n (i := 0) (r := p0) dd_Machine_evaluate_157 rfl rfl (fr_pc (pc' := 158) rfl ?_)
                  refine fr_gR cl_3 1 (by decide) rfl sw_79 dd_Machine_evaluate_158 (fun x32 => fr_pc (pc' := 161) rfl ?_)
                  refine fp_iload (i := 5) (x := v31.1) dd_Machine_evaluate_161 rfl (fr_pc (pc' := 163) rfl ?_)
                  refine fp_iconst (v := (1 : Int32)) dd_Machine_evaluate_163 (by decide) (fr_pc (pc' := 164) rfl ?_)
                  refine fp_isub dd_Machine_evaluate_164 (fr_pc (pc' := 165) rfl ?_)
                  refine fr_aI0 dd_Machine_evaluate_165 (fun x33 => fr_pc (pc' := 166) rfl ?_)
                  refine fp_iconst (v := (1 : Int32)) dd_Machine_evaluate_166 (by decide) (fr_pc (pc' := 167) rfl ?_)
                  refine fr_bnd (l1 := (fun (v35 : (Int32)) => sf_p 175 [some (sf_rv p0), some (sf_rv p1), some (.int p2), some (.int p3), some (.int x2), some (.int v31.1), some (.int v31.2), some (.int x6), some (.int x7), none, none] [.int v35])) ?_ (fun v35 => ?_)
                  · refine fr_icmp_ne (tgt := 174) dd_Machine_evaluate_167 rfl (fun _ => ?_) (fun _ => ?_)
                    · refine fr_pc (pc' := 170) rfl ?_
                      refine fp_iconst (v := (1 : Int32)) dd_Machine_evaluate_170 (by decide) (fr_pc (pc' := 171) rfl ?_)
                      refine fp_goto (tgt := 175) dd_Machine_evaluate_171 rfl ?_
                      exact fr_ret rfl
                    · refine fp_iconst (v := (0 : Int32)) dd_Machine_evaluate_174 (by decide) (fr_pc (pc' := 175) rfl ?_)
                      exact fr_ret rfl
                  · refine fp_iload (i := 7) (x := x6) dd_Machine_evaluate_175 rfl (fr_pc (pc' := 177) rfl ?_)
                    refine fp_iconst (v := (3 : Int32)) dd_Machine_evaluate_177 (by decide) (fr_pc (pc' := 178) rfl ?_)
                    refine fr_bnd (l1 := (fun (v37 : (Int32)) => sf_p 186 [some (sf_rv p0), some (sf_rv p1), some (.int p2), some (.int p3), some (.int x2), some (.int v31.1), some (.int v31.2), some (.int x6), some (.int x7), none, none] [.int v37, .int v35])) ?_ (fun v37 => ?_)
                    · refine fr_icmp_ne (tgt := 185) dd_Machine_evaluate_178 rfl (fun _ => ?_) (fun _ => ?_)
                      · refine fr_pc (pc' := 181) rfl ?_
                        refine fp_iconst (v := (1 : Int32)) dd_Machine_evaluate_181 (by decide) (fr_pc (pc' := 182) rfl ?_)
                        refine fp_goto (tgt := 186) dd_Machine_evaluate_182 rfl ?_
                        exact fr_ret rfl
                      · refine fp_iconst (v := (0 : Int32)) dd_Machine_evaluate_185 (by decide) (fr_pc (pc' := 186) rfl ?_)
                        exact fr_ret rfl
                    · refine fr_bnd (l1 := (fun (v39 : (Int32)) => sf_p 194 [some (sf_rv p0), some (sf_rv p1), some (.int p2), some (.int p3), some (.int x2), some (.int v31.1), some (.int v31.2), some (.int x6), some (.int x7), none, none] [.int v39])) ?_ (fun v39 => ?_)
                      · refine fr_icmp_ne (tgt := 193) dd_Machine_evaluate_186 rfl (fun _ => ?_) (fun _ => ?_)
                        · refine fr_pc (pc' := 189) rfl ?_
                          refine fp_iconst (v := (1 : Int32)) dd_Machine_evaluate_189 (by decide) (fr_pc (pc' := 190) rfl ?_)
                          refine fp_goto (tgt := 194) dd_Machine_evaluate_190 rfl ?_
                          exact fr_ret rfl
                        · refine fp_iconst (v := (0 : Int32)) dd_Machine_evaluate_193 (by decide) (fr_pc (pc' := 194) rfl ?_)
                          exact fr_ret rfl
                      · refine fp_istore (i := 9) dd_Machine_evaluate_194 (Nat.le_of_ble_eq_true rfl) (fun _ => c1_i rfl) (fr_to (pc' := 196) (env' := [some (sf_rv p0), some (sf_rv p1), some (.int p2), some (.int p3), some (.int x2), some (.int v31.1), some (.int v31.2), some (.int x6), some (.int x7), some (.int v39), none]) (stk' := []) rfl rfl rfl ?_)
                        refine fp_iload (i := 6) (x := v31.2) dd_Machine_evaluate_196 rfl (fr_pc (pc' := 198) rfl ?_)
                        refine fp_iload (i := 9) (x := v39) dd_Machine_evaluate_198 rfl (fr_pc (pc' := 200) rfl ?_)
                        refine fr_bnd (l1 := (fun (v42 : (Int32)) => sf_p 213 [some (sf_rv p0), some (sf_rv p1), some (.int p2), some (.int p3), some (.int x2), some (.int v31.1), some (.int v31.2), some (.int x6), some (.int x7), some (.int v39), none] [.int v42, .int v31.2])) ?_ (fun v42 => ?_)
                        · refine fr_if_eq (tgt := 212) dd_Machine_evaluate_200 rfl (fun _ => ?_) (fun _ => ?_)
                          · refine fp_iconst (v := (0 : Int32)) dd_Machine_evaluate_212 (by decide) (fr_pc (pc' := 213) rfl ?_)
                            exact fr_ret rfl
                          · refine fr_pc (pc' := 203) rfl ?_
                            refine fp_iconst (v := (0 : Int32)) dd_Machine_evaluate_203 (by decide) (fr_pc (pc' := 204) rfl ?_)
                            refine fp_iload (i := 8) (x := x7) dd_Machine_evaluate_204 rfl (fr_pc (pc' := 206) rfl ?_)
                            refine fr_callS (stk := [.int v31.2]) (ok_Math_max (0 : Int32) x7) mt_Math_max rfl rfl sw_447 sw_448 (by decide) (Nat.le_of_ble_eq_true rfl) dd_Machine_evaluate_206 (fun x41 => fr_to (pc' := 209) (env' := [some (sf_rv p0), some (sf_rv p1), some (.int p2), some (.int p3), some (.int x2), some (.int v31.1), some (.int v31.2), some (.int x6), some (.int x7), some (.int v39), none]) (stk' := [.int x41, .int v31.2]) rfl rfl rfl ?_)
                            refine fp_goto (tgt := 213) dd_Machine_evaluate_209 rfl ?_
                            exact fr_ret rfl
                        · refine fp_iadd dd_Machine_evaluate_213 (fr_pc (pc' := 214) rfl ?_)
                          refine fr_nistore (i := 6) dd_Machine_evaluate_214 (Nat.le_of_ble_eq_true rfl) (fun _ => c1_i rfl) (fun y43 => fr_to (pc' := 216) (env' := [some (sf_rv p0), some (sf_rv p1), some (.int p2), some (.int p3), some (.int x2), some (.int v31.1), some (.int y43), some (.int x6), some (.int x7), some (.int v39), none]) (stk' := []) rfl rfl rfl ?_)
                          refine fp_iload (i := 5) (x := v31.1) dd_Machine_evaluate_216 rfl (fr_pc (pc' := 218) rfl ?_)
                          refine fp_iload (i := 9) (x := v39) dd_Machine_evaluate_218 rfl (fr_pc (pc' := 220) rfl ?_)
                          refine fr_if_eq (tgt := 227) dd_Machine_evaluate_220 rfl (fun _ => ?_) (fun _ => ?_)
                          · refine fp_iconst (v := (1 : Int32)) dd_Machine_evaluate_227 (by decide) (fr_pc (pc' := 228) rfl ?_)
                            refine fp_isub dd_Machine_evaluate_228 (fr_pc (pc' := 229) rfl ?_)
                            refine fr_nistore (i := 5) dd_Machine_evaluate_229 (Nat.le_of_ble_eq_true rfl) (fun _ => c1_i rfl) (fun y45 => fr_to (pc' := 231) (env' := [some (sf_rv p0), some (sf_rv p1), some (.int p2), some (.int p3), some (.int x2), some (.int y45), some (.int y43), some (.int x6), some (.int x7), some (.int v39), none]) (stk' := []) rfl rfl rfl ?_)
                            refine fp_goto (tgt := 306) dd_Machine_evaluate_231 rfl ?_
                            refine fr_niinc (i := 6) (x := y43) (w := (1 : Int32)) dd_Machine_evaluate_306 rfl (by decide) (Nat.le_of_ble_eq_true rfl) (fun _ => c1_i rfl) (fun y46 => fr_to (pc' := 309) (env' := [some (sf_rv p0), some (sf_rv p1), some (.int p2), some (.int p3), some (.int x2), some (.int y45), some (.int y46), some (.int x6), some (.int x7), some (.int v39), none]) (stk' := []) rfl rfl rfl ?_)
                            refine fp_goto (tgt := 27) dd_Machine_evaluate_309 rfl ?_
                            refine fr_wk [true, true, true, true, true, true, true, false, false, false, false] ?_
                            exact fr_ret rfl
                          · refine fr_pc (pc' := 223) rfl ?_
                            refine fp_iconst (v := (0 : Int32)) dd_Machine_evaluate_223 (by decide) (fr_pc (pc' := 224) rfl ?_)
                            refine fp_goto (tgt := 228) dd_Machine_evaluate_224 rfl ?_
                            refine fp_isub dd_Machine_evaluate_228 (fr_pc (pc' := 229) rfl ?_)
                            refine fr_nistore (i := 5) dd_Machine_evaluate_229 (Nat.le_of_ble_eq_true rfl) (fun _ => c1_i rfl) (fun y47 => fr_to (pc' := 231) (env' := [some (sf_rv p0), some (sf_rv p1), some (.int p2), some (.int p3), some (.int x2), some (.int y47), some (.int y43), some (.int x6), some (.int x7), some (.int v39), none]) (stk' := []) rfl rfl rfl ?_)
                            refine fp_goto (tgt := 306) dd_Machine_evaluate_231 rfl ?_
                            refine fr_niinc (i := 6) (x := y43) (w := (1 : Int32)) dd_Machine_evaluate_306 rfl (by decide) (Nat.le_of_ble_eq_true rfl) (fun _ => c1_i rfl) (fun y48 => fr_to (pc' := 309) (env' := [some (sf_rv p0), some (sf_rv p1), some (.int p2), some (.int p3), some (.int x2), some (.int y47), some (.int y48), some (.int x6), some (.int x7), some (.int v39), none]) (stk' := []) rfl rfl rfl ?_)
                            refine fp_goto (tgt := 27) dd_Machine_evaluate_309 rfl ?_
                            refine fr_wk [true, true, true, true, true, true, true, false, false, false, false] ?_
                            exact fr_ret rfl
            · refine fr_pc (pc' := 106) rfl ?_
              refine fp_ldc (v := (-2000000000 : Int32)) dd_Machine_evaluate_106 sw_442 (fr_pc (pc' := 108) rfl ?_)
              exact fr_iret (v := (-2000000000 : Int32)) rfl rfl dd_Machine_evaluate_108
      · refine fp_iload (i := 5) (x := v49.1) dd_Machine_evaluate_61 rfl (fr_pc (pc' := 63) rfl ?_)
        refine fp_bipush (v := (64 : Int32)) dd_Machine_evaluate_63 (by decide) (fr_pc (pc' := 65) rfl ?_)
        refine fr_icmp_lt (tgt := 71) dd_Machine_evaluate_65 rfl (fun _ => ?_) (fun _ => ?_)
        · refine fp_aload_n (i := 0) (r := p0) dd_Machine_evaluate_71 rfl rfl (fr_pc (pc' := 72) rfl ?_)
          refine fr_gR cl_3 1 (by decide) rfl sw_79 dd_Machine_evaluate_72 (fun x51 => fr_pc (pc' := 75) rfl ?_)
          refine fp_iload (i := 5) (x := v49.1) dd_Machine_evaluate_75 rfl (fr_pc (pc' := 77) rfl ?_)
          refine fp_iload (i := 7) (x := x6) dd_Machine_evaluate_77 rfl (fr_pc (pc' := 79) rfl ?_)
          refine fr_bnd (l1 := (fun (v54 : (Int32)) => sf_p 93 [some (sf_rv p0), some (sf_rv p1), some (.int p2), some (.int p3), some (.int x2), some (.int v49.1), some (.int v49.2), some (.int x6), some (.int x7), none, none] [.int v54, .int v49.1, sf_rv x51])) ?_ (fun v54 => ?_)
          · refine fr_if_ne (tgt := 87) dd_Machine_evaluate_79 rfl (fun _ => ?_) (fun _ => ?_)
            · refine fr_pc (pc' := 82) rfl ?_
              refine fp_iload (i := 8) (x := x7) dd_Machine_evaluate_82 rfl (fr_pc (pc' := 84) rfl ?_)
              refine fp_goto (tgt := 93) dd_Machine_evaluate_84 rfl ?_
              exact fr_ret rfl
            · refine fp_aload_n (i := 0) (r := p0) dd_Machine_evaluate_87 rfl rfl (fr_pc (pc' := 88) rfl ?_)
              refine fp_iload (i := 8) (x := x7) dd_Machine_evaluate_88 rfl (fr_pc (pc' := 90) rfl ?_)
              refine fr_callV (stk := [.int v49.1, sf_rv x51]) (As := [.int x7]) cl_3 (ok_Machine_wordAt p0 x7) mt_Machine_wordAt rfl rfl sw_443 sw_445 sp_4 (by decide) (Nat.le_of_ble_eq_true rfl) dd_Machine_evaluate_90 (fun x53 => fr_to (pc' := 93) (env' := [some (sf_rv p0), some (sf_rv p1), some (.int p2), some (.int p3), some (.int x2), some (.int v49.1), some (.int v49.2), some (.int x6), some (.int x7), none, none]) (stk' := [.int x53, .int v49.1, sf_rv x51]) rfl rfl rfl ?_)
              exact fr_ret rfl
          · refine fr_sI0 dd_Machine_evaluate_93 (fr_pc (pc' := 94) rfl ?_)
            refine fr_niinc (i := 5) (x := v49.1) (w := (1 : Int32)) dd_Machine_evaluate_94 rfl (by decide) (Nat.le_of_ble_eq_true rfl) (fun _ => c1_i rfl) (fun y55 => fr_to (pc' := 97) (env' := [some (sf_rv p0), some (sf_rv p1), some (.int p2), some (.int p3), some (.int x2), some (.int y55), some (.int v49.2), some (.int x6), some (.int x7), none, none]) (stk' := []) rfl rfl rfl ?_)
            refine fp_goto (tgt := 306) dd_Machine_evaluate_97 rfl ?_
            refine fr_niinc (i := 6) (x := v49.2) (w := (1 : Int32)) dd_Machine_evaluate_306 rfl (by decide) (Nat.le_of_ble_eq_true rfl) (fun _ => c1_i rfl) (fun y56 => fr_to (pc' := 309) (env' := [some (sf_rv p0), some (sf_rv p1), some (.int p2), some (.int p3), some (.int x2), some (.int y55), some (.int y56), some (.int x6), some (.int x7), none, none]) (stk' := []) rfl rfl rfl ?_)
            refine fp_goto (tgt := 27) dd_Machine_evaluate_309 rfl ?_
            refine fr_wk [true, true, true, true, true, true, true, false, false, false, false] ?_
            exact fr_ret rfl
        · refine fr_pc (pc' := 68) rfl ?_
          refine fp_ldc (v := (-2000000000 : Int32)) dd_Machine_evaluate_68 sw_442 (fr_pc (pc' := 70) rfl ?_)
          exact fr_iret (v := (-2000000000 : Int32)) rfl rfl dd_Machine_evaluate_70
  · refine fp_iload (i := 5) (x := e57) dd_Machine_evaluate_312 rfl (fr_pc (pc' := 314) rfl ?_)
    refine fr_if_le (tgt := 326) dd_Machine_evaluate_314 rfl (fun _ => ?_) (fun _ => ?_)
    · refine fp_iconst (v := (1 : Int32)) dd_Machine_evaluate_326 (by decide) (fr_pc (pc' := 327) rfl ?_)
      exact fr_iret (v := (1 : Int32)) rfl rfl dd_Machine_evaluate_327
    · refine fr_pc (pc' := 317) rfl ?_
      refine fp_aload_n (i := 0) (r := p0) dd_Machine_evaluate_317 rfl rfl (fr_pc (pc' := 318) rfl ?_)
      refine fr_gR cl_3 1 (by decide) rfl sw_79 dd_Machine_evaluate_318 (fun x59 => fr_pc (pc' := 321) rfl ?_)
      refine fp_iconst (v := (0 : Int32)) dd_Machine_evaluate_321 (by decide) (fr_pc (pc' := 322) rfl ?_)
      refine fr_aI0 dd_Machine_evaluate_322 (fun x60 => fr_pc (pc' := 323) rfl ?_)
      refine fp_goto (tgt := 327) dd_Machine_evaluate_323 rfl ?_
      exact fr_iret (v := x60) rfl rfl dd_Machine_evaluate_327
