/-! Office: its methods as plain functions, and that the bytecode runs them (printed by program). -/
theorem mt_Office_init : sf_Mt ({ cls := "SplitFares$Office", name := "<init>", desc := "()V" } : Jvm.MethodName) prog_5_method_1_code 1 none 0 := ⟨sw_39, sw_3, ⟨by decide, by decide, by decide +kernel⟩, by decide⟩
theorem dd_Office_init_0 : decode prog_5_method_1_code 0 = .ok (.aload_n 0, 1) := by decide +kernel
theorem dd_Office_init_1 : decode prog_5_method_1_code 1 = .ok (.invokespecial 3, 3) := by decide +kernel
theorem dd_Office_init_4 : decode prog_5_method_1_code 4 = .ok (.aload_n 0, 1) := by decide +kernel
theorem dd_Office_init_5 : decode prog_5_method_1_code 5 = .ok (.new 9, 3) := by decide +kernel
theorem dd_Office_init_8 : decode prog_5_method_1_code 8 = .ok (.dup, 1) := by decide +kernel
theorem dd_Office_init_9 : decode prog_5_method_1_code 9 = .ok (.invokespecial 11, 3) := by decide +kernel
theorem dd_Office_init_12 : decode prog_5_method_1_code 12 = .ok (.putfield 12, 3) := by decide +kernel
theorem dd_Office_init_15 : decode prog_5_method_1_code 15 = .ok (.aload_n 0, 1) := by decide +kernel
theorem dd_Office_init_16 : decode prog_5_method_1_code 16 = .ok (.iconst 0, 1) := by decide +kernel
theorem dd_Office_init_17 : decode prog_5_method_1_code 17 = .ok (.putfield 18, 3) := by decide +kernel
theorem dd_Office_init_20 : decode prog_5_method_1_code 20 = .ok (.aload_n 0, 1) := by decide +kernel
theorem dd_Office_init_21 : decode prog_5_method_1_code 21 = .ok (.bipush 6, 2) := by decide +kernel
theorem dd_Office_init_23 : decode prog_5_method_1_code 23 = .ok (.newarray .int, 2) := by decide +kernel
theorem dd_Office_init_25 : decode prog_5_method_1_code 25 = .ok (.putfield 22, 3) := by decide +kernel
theorem dd_Office_init_28 : decode prog_5_method_1_code 28 = .ok (.aload_n 0, 1) := by decide +kernel
theorem dd_Office_init_29 : decode prog_5_method_1_code 29 = .ok (.bipush 6, 2) := by decide +kernel
theorem dd_Office_init_31 : decode prog_5_method_1_code 31 = .ok (.newarray .int, 2) := by decide +kernel
theorem dd_Office_init_33 : decode prog_5_method_1_code 33 = .ok (.putfield 26, 3) := by decide +kernel
theorem dd_Office_init_36 : decode prog_5_method_1_code 36 = .ok (.aload_n 0, 1) := by decide +kernel
theorem dd_Office_init_37 : decode prog_5_method_1_code 37 = .ok (.bipush 6, 2) := by decide +kernel
theorem dd_Office_init_39 : decode prog_5_method_1_code 39 = .ok (.newarray .int, 2) := by decide +kernel
theorem dd_Office_init_41 : decode prog_5_method_1_code 41 = .ok (.putfield 29, 3) := by decide +kernel
theorem dd_Office_init_44 : decode prog_5_method_1_code 44 = .ok (.aload_n 0, 1) := by decide +kernel
theorem dd_Office_init_45 : decode prog_5_method_1_code 45 = .ok (.iconst 0, 1) := by decide +kernel
theorem dd_Office_init_46 : decode prog_5_method_1_code 46 = .ok (.putfield 32, 3) := by decide +kernel
theorem dd_Office_init_49 : decode prog_5_method_1_code 49 = .ok (.aload_n 0, 1) := by decide +kernel
theorem dd_Office_init_50 : decode prog_5_method_1_code 50 = .ok (.iconst (-1), 1) := by decide +kernel
theorem dd_Office_init_51 : decode prog_5_method_1_code 51 = .ok (.putfield 35, 3) := by decide +kernel
theorem dd_Office_init_54 : decode prog_5_method_1_code 54 = .ok (.aload_n 0, 1) := by decide +kernel
theorem dd_Office_init_55 : decode prog_5_method_1_code 55 = .ok (.bipush 6, 2) := by decide +kernel
theorem dd_Office_init_57 : decode prog_5_method_1_code 57 = .ok (.anewarray 38, 3) := by decide +kernel
theorem dd_Office_init_60 : decode prog_5_method_1_code 60 = .ok (.putfield 40, 3) := by decide +kernel
theorem dd_Office_init_63 : decode prog_5_method_1_code 63 = .ok (.aload_n 0, 1) := by decide +kernel
theorem dd_Office_init_64 : decode prog_5_method_1_code 64 = .ok (.iconst 0, 1) := by decide +kernel
theorem dd_Office_init_65 : decode prog_5_method_1_code 65 = .ok (.putfield 44, 3) := by decide +kernel
theorem dd_Office_init_68 : decode prog_5_method_1_code 68 = .ok (.aload_n 0, 1) := by decide +kernel
theorem dd_Office_init_69 : decode prog_5_method_1_code 69 = .ok (.bipush 6, 2) := by decide +kernel
theorem dd_Office_init_71 : decode prog_5_method_1_code 71 = .ok (.newarray .int, 2) := by decide +kernel
theorem dd_Office_init_73 : decode prog_5_method_1_code 73 = .ok (.putfield 47, 3) := by decide +kernel
theorem dd_Office_init_76 : decode prog_5_method_1_code 76 = .ok (.aload_n 0, 1) := by decide +kernel
theorem dd_Office_init_77 : decode prog_5_method_1_code 77 = .ok (.bipush 6, 2) := by decide +kernel
theorem dd_Office_init_79 : decode prog_5_method_1_code 79 = .ok (.newarray .int, 2) := by decide +kernel
theorem dd_Office_init_81 : decode prog_5_method_1_code 81 = .ok (.putfield 50, 3) := by decide +kernel
theorem dd_Office_init_84 : decode prog_5_method_1_code 84 = .ok (.aload_n 0, 1) := by decide +kernel
theorem dd_Office_init_85 : decode prog_5_method_1_code 85 = .ok (.iconst 1, 1) := by decide +kernel
theorem dd_Office_init_86 : decode prog_5_method_1_code 86 = .ok (.putfield 53, 3) := by decide +kernel
theorem dd_Office_init_89 : decode prog_5_method_1_code 89 = .ok (.aload_n 0, 1) := by decide +kernel
theorem dd_Office_init_90 : decode prog_5_method_1_code 90 = .ok (.iconst 0, 1) := by decide +kernel
theorem dd_Office_init_91 : decode prog_5_method_1_code 91 = .ok (.putfield 56, 3) := by decide +kernel
theorem dd_Office_init_94 : decode prog_5_method_1_code 94 = .ok (.aload_n 0, 1) := by decide +kernel
theorem dd_Office_init_95 : decode prog_5_method_1_code 95 = .ok (.new 59, 3) := by decide +kernel
theorem dd_Office_init_98 : decode prog_5_method_1_code 98 = .ok (.dup, 1) := by decide +kernel
theorem dd_Office_init_99 : decode prog_5_method_1_code 99 = .ok (.invokespecial 61, 3) := by decide +kernel
theorem dd_Office_init_102 : decode prog_5_method_1_code 102 = .ok (.putfield 62, 3) := by decide +kernel
theorem dd_Office_init_105 : decode prog_5_method_1_code 105 = .ok (.return_, 1) := by decide +kernel
def jx_Office_init (p0 : Option Nat) : sf_M (Unit) :=
  sf_bnd (sf_rc 4 p0 (sf_ret ())) fun _ =>
  sf_bnd (sf_new 5 4) fun x1 =>
  sf_bnd (sf_rc 5 x1 (jx_Pocket_init x1)) fun _ =>
  sf_bnd (sf_pR 4 0 p0 x1) fun _ =>
  sf_bnd (sf_pI 4 1 p0 (0 : Int32)) fun _ =>
  sf_bnd (sf_newA 0 (6 : Int32)) fun x3 =>
  sf_bnd (sf_pR 4 2 p0 x3) fun _ =>
  sf_bnd (sf_newA 0 (6 : Int32)) fun x4 =>
  sf_bnd (sf_pR 4 3 p0 x4) fun _ =>
  sf_bnd (sf_newA 0 (6 : Int32)) fun x5 =>
  sf_bnd (sf_pR 4 4 p0 x5) fun _ =>
  sf_bnd (sf_pI 4 5 p0 (0 : Int32)) fun _ =>
  sf_bnd (sf_pI 4 6 p0 (-1 : Int32)) fun _ =>
  sf_bnd (sf_newA 6 (6 : Int32)) fun x6 =>
  sf_bnd (sf_pR 4 7 p0 x6) fun _ =>
  sf_bnd (sf_pI 4 8 p0 (0 : Int32)) fun _ =>
  sf_bnd (sf_newA 0 (6 : Int32)) fun x7 =>
  sf_bnd (sf_pR 4 9 p0 x7) fun _ =>
  sf_bnd (sf_newA 0 (6 : Int32)) fun x8 =>
  sf_bnd (sf_pR 4 10 p0 x8) fun _ =>
  sf_bnd (sf_pI 4 11 p0 (1 : Int32)) fun _ =>
  sf_bnd (sf_pI 4 12 p0 (0 : Int32)) fun _ =>
  sf_bnd (sf_new 3 2) fun x9 =>
  sf_bnd (sf_rc 3 x9 (jx_Machine_init x9)) fun _ =>
  sf_bnd (sf_pR 4 13 p0 x9) fun _ =>
  sf_ret ()
set_option maxRecDepth 20000 in
set_option maxHeartbeats 4000000 in
theorem ok_Office_init (p0 : Option Nat) : sf_Ok ({ cls := "SplitFares$Office", name := "<init>", desc := "()V" } : Jvm.MethodName) prog_5_method_1_code 1 none 2 [sf_rv p0] (jx_Office_init p0) (fun _ => none) := by
  refine sf_Ok.of (env := [some (sf_rv p0)]) (plainFor_of_name (by decide)) [false] (fun G => ⟨pk_r, trivial⟩) (Nat.le_of_ble_eq_true rfl) rfl (fun X => ?_)
  unfold jx_Office_init
  refine fp_aload_n (i := 0) (r := p0) dd_Office_init_0 rfl rfl (fr_pc (pc' := 1) rfl ?_)
  refine fr_obj (ci := 4) (by decide) sw_40 sw_27 sw_28 (Nat.le_of_ble_eq_true rfl) (Nat.le_of_ble_eq_true rfl) dd_Office_init_1 (fr_pc (pc' := 4) rfl ?_)
  refine fp_aload_n (i := 0) (r := p0) dd_Office_init_4 rfl rfl (fr_pc (pc' := 5) rfl ?_)
  refine fr_new cl_5 sw_41 sw_42 sw_4 dd_Office_init_5 (fun x1 => fr_pc (pc' := 8) rfl ?_)
  refine fp_dup_r dd_Office_init_8 (fr_pc (pc' := 9) rfl ?_)
  refine fr_callIN (stk := [sf_rv x1, sf_rv p0]) (As := []) (ci := 5) (by decide) rfl (ok_Pocket_init x1) mt_Pocket_init rfl rfl sn_43 sw_44 (by decide) (Nat.le_of_ble_eq_true rfl) dd_Office_init_9 (fun u2 => fr_to (pc' := 12) (env' := [some (sf_rv p0)]) (stk' := [sf_rv x1, sf_rv p0]) rfl rfl rfl ?_)
  refine fr_pRg cl_4 0 (by decide) rfl sw_85 (Or.inr ⟨rfl, rfl, rfl⟩) (Or.inl ⟨_, rfl⟩) dd_Office_init_12 (fr_pc (pc' := 15) rfl ?_)
  refine fp_aload_n (i := 0) (r := p0) dd_Office_init_15 rfl rfl (fr_pc (pc' := 16) rfl ?_)
  refine fp_iconst (v := (0 : Int32)) dd_Office_init_16 (by decide) (fr_pc (pc' := 17) rfl ?_)
  refine fr_pI cl_4 1 (by decide) rfl sw_89 rfl ⟨rfl, rfl⟩ dd_Office_init_17 (fr_pc (pc' := 20) rfl ?_)
  refine fp_aload_n (i := 0) (r := p0) dd_Office_init_20 rfl rfl (fr_pc (pc' := 21) rfl ?_)
  refine fp_bipush (v := (6 : Int32)) dd_Office_init_21 (by decide) (fr_pc (pc' := 23) rfl ?_)
  refine fr_newI dd_Office_init_23 (fun x3 => fr_pc (pc' := 25) rfl ?_)
  refine fr_pRg cl_4 2 (by decide) rfl sw_92 (Or.inr ⟨rfl, rfl, rfl⟩) (Or.inr ⟨_, rfl⟩) dd_Office_init_25 (fr_pc (pc' := 28) rfl ?_)
  refine fp_aload_n (i := 0) (r := p0) dd_Office_init_28 rfl rfl (fr_pc (pc' := 29) rfl ?_)
  refine fp_bipush (v := (6 : Int32)) dd_Office_init_29 (by decide) (fr_pc (pc' := 31) rfl ?_)
  refine fr_newI dd_Office_init_31 (fun x4 => fr_pc (pc' := 33) rfl ?_)
  refine fr_pRg cl_4 3 (by decide) rfl sw_95 (Or.inr ⟨rfl, rfl, rfl⟩) (Or.inr ⟨_, rfl⟩) dd_Office_init_33 (fr_pc (pc' := 36) rfl ?_)
  refine fp_aload_n (i := 0) (r := p0) dd_Office_init_36 rfl rfl (fr_pc (pc' := 37) rfl ?_)
  refine fp_bipush (v := (6 : Int32)) dd_Office_init_37 (by decide) (fr_pc (pc' := 39) rfl ?_)
  refine fr_newI dd_Office_init_39 (fun x5 => fr_pc (pc' := 41) rfl ?_)
  refine fr_pRg cl_4 4 (by decide) rfl sw_97 (Or.inr ⟨rfl, rfl, rfl⟩) (Or.inr ⟨_, rfl⟩) dd_Office_init_41 (fr_pc (pc' := 44) rfl ?_)
  refine fp_aload_n (i := 0) (r := p0) dd_Office_init_44 rfl rfl (fr_pc (pc' := 45) rfl ?_)
  refine fp_iconst (v := (0 : Int32)) dd_Office_init_45 (by decide) (fr_pc (pc' := 46) rfl ?_)
  refine fr_pI cl_4 5 (by decide) rfl sw_99 rfl ⟨rfl, rfl⟩ dd_Office_init_46 (fr_pc (pc' := 49) rfl ?_)
  refine fp_aload_n (i := 0) (r := p0) dd_Office_init_49 rfl rfl (fr_pc (pc' := 50) rfl ?_)
  refine fp_iconst (v := (-1 : Int32)) dd_Office_init_50 (by decide) (fr_pc (pc' := 51) rfl ?_)
  refine fr_pI cl_4 6 (by decide) rfl sw_101 rfl ⟨rfl, rfl⟩ dd_Office_init_51 (fr_pc (pc' := 54) rfl ?_)
  refine fp_aload_n (i := 0) (r := p0) dd_Office_init_54 rfl rfl (fr_pc (pc' := 55) rfl ?_)
  refine fp_bipush (v := (6 : Int32)) dd_Office_init_55 (by decide) (fr_pc (pc' := 57) rfl ?_)
  refine fr_newR sw_68 (fun G U h => h.2.2.1.2.2) ar_6 (by decide) (by decide) dd_Office_init_57 (fun x6 => fr_pc (pc' := 60) rfl ?_)
  refine fr_pRg cl_4 7 (by decide) rfl sw_103 (Or.inr ⟨rfl, rfl, rfl⟩) (Or.inr ⟨_, rfl⟩) dd_Office_init_60 (fr_pc (pc' := 63) rfl ?_)
  refine fp_aload_n (i := 0) (r := p0) dd_Office_init_63 rfl rfl (fr_pc (pc' := 64) rfl ?_)
  refine fp_iconst (v := (0 : Int32)) dd_Office_init_64 (by decide) (fr_pc (pc' := 65) rfl ?_)
  refine fr_pI cl_4 8 (by decide) rfl sw_104 rfl ⟨rfl, rfl⟩ dd_Office_init_65 (fr_pc (pc' := 68) rfl ?_)
  refine fp_aload_n (i := 0) (r := p0) dd_Office_init_68 rfl rfl (fr_pc (pc' := 69) rfl ?_)
  refine fp_bipush (v := (6 : Int32)) dd_Office_init_69 (by decide) (fr_pc (pc' := 71) rfl ?_)
  refine fr_newI dd_Office_init_71 (fun x7 => fr_pc (pc' := 73) rfl ?_)
  refine fr_pRg cl_4 9 (by decide) rfl sw_106 (Or.inr ⟨rfl, rfl, rfl⟩) (Or.inr ⟨_, rfl⟩) dd_Office_init_73 (fr_pc (pc' := 76) rfl ?_)
  refine fp_aload_n (i := 0) (r := p0) dd_Office_init_76 rfl rfl (fr_pc (pc' := 77) rfl ?_)
  refine fp_bipush (v := (6 : Int32)) dd_Office_init_77 (by decide) (fr_pc (pc' := 79) rfl ?_)
  refine fr_newI dd_Office_init_79 (fun x8 => fr_pc (pc' := 81) rfl ?_)
  refine fr_pRg cl_4 10 (by decide) rfl sw_108 (Or.inr ⟨rfl, rfl, rfl⟩) (Or.inr ⟨_, rfl⟩) dd_Office_init_81 (fr_pc (pc' := 84) rfl ?_)
  refine fp_aload_n (i := 0) (r := p0) dd_Office_init_84 rfl rfl (fr_pc (pc' := 85) rfl ?_)
  refine fp_iconst (v := (1 : Int32)) dd_Office_init_85 (by decide) (fr_pc (pc' := 86) rfl ?_)
  refine fr_pI cl_4 11 (by decide) rfl sw_110 rfl ⟨rfl, rfl⟩ dd_Office_init_86 (fr_pc (pc' := 89) rfl ?_)
  refine fp_aload_n (i := 0) (r := p0) dd_Office_init_89 rfl rfl (fr_pc (pc' := 90) rfl ?_)
  refine fp_iconst (v := (0 : Int32)) dd_Office_init_90 (by decide) (fr_pc (pc' := 91) rfl ?_)
  refine fr_pI cl_4 12 (by decide) rfl sw_111 rfl ⟨rfl, rfl⟩ dd_Office_init_91 (fr_pc (pc' := 94) rfl ?_)
  refine fp_aload_n (i := 0) (r := p0) dd_Office_init_94 rfl rfl (fr_pc (pc' := 95) rfl ?_)
  refine fr_new cl_3 sw_70 sw_71 sw_5 dd_Office_init_95 (fun x9 => fr_pc (pc' := 98) rfl ?_)
  refine fp_dup_r dd_Office_init_98 (fr_pc (pc' := 99) rfl ?_)
  refine fr_callIN (stk := [sf_rv x9, sf_rv p0]) (As := []) (ci := 3) (by decide) rfl (ok_Machine_init x9) mt_Machine_init rfl rfl sn_72 sw_73 (by decide) (Nat.le_of_ble_eq_true rfl) dd_Office_init_99 (fun u10 => fr_to (pc' := 102) (env' := [some (sf_rv p0)]) (stk' := [sf_rv x9, sf_rv p0]) rfl rfl rfl ?_)
  refine fr_pRg cl_4 13 (by decide) rfl sw_112 (Or.inr ⟨rfl, rfl, rfl⟩) (Or.inl ⟨_, rfl⟩) dd_Office_init_102 (fr_pc (pc' := 105) rfl ?_)
  exact fr_vret rfl rfl dd_Office_init_105
theorem mt_Office_addTrain : sf_Mt ({ cls := "SplitFares$Office", name := "addTrain", desc := "(III)I" } : Jvm.MethodName) prog_5_method_4_code 5 (some .int) 3 := ⟨sw_363, sw_3, ⟨by decide, by decide, by decide +kernel⟩, by decide⟩
theorem dd_Office_addTrain_0 : decode prog_5_method_4_code 0 = .ok (.iload_n 1, 1) := by decide +kernel
theorem dd_Office_addTrain_1 : decode prog_5_method_4_code 1 = .ok (.ifCond .lt 22, 3) := by decide +kernel
theorem dd_Office_addTrain_4 : decode prog_5_method_4_code 4 = .ok (.iload_n 1, 1) := by decide +kernel
theorem dd_Office_addTrain_5 : decode prog_5_method_4_code 5 = .ok (.sipush 255, 3) := by decide +kernel
theorem dd_Office_addTrain_8 : decode prog_5_method_4_code 8 = .ok (.if_icmp .gt 15, 3) := by decide +kernel
theorem dd_Office_addTrain_11 : decode prog_5_method_4_code 11 = .ok (.iload_n 1, 1) := by decide +kernel
theorem dd_Office_addTrain_12 : decode prog_5_method_4_code 12 = .ok (.invokestatic 76, 3) := by decide +kernel
theorem dd_Office_addTrain_15 : decode prog_5_method_4_code 15 = .ok (.iconst 2, 1) := by decide +kernel
theorem dd_Office_addTrain_16 : decode prog_5_method_4_code 16 = .ok (.if_icmp .lt 7, 3) := by decide +kernel
theorem dd_Office_addTrain_19 : decode prog_5_method_4_code 19 = .ok (.iconst 1, 1) := by decide +kernel
theorem dd_Office_addTrain_20 : decode prog_5_method_4_code 20 = .ok (.goto 4, 3) := by decide +kernel
theorem dd_Office_addTrain_23 : decode prog_5_method_4_code 23 = .ok (.iconst 0, 1) := by decide +kernel
theorem dd_Office_addTrain_24 : decode prog_5_method_4_code 24 = .ok (.istore 4, 2) := by decide +kernel
theorem dd_Office_addTrain_26 : decode prog_5_method_4_code 26 = .ok (.iload 4, 2) := by decide +kernel
theorem dd_Office_addTrain_28 : decode prog_5_method_4_code 28 = .ok (.ifCond .eq 22, 3) := by decide +kernel
theorem dd_Office_addTrain_31 : decode prog_5_method_4_code 31 = .ok (.iload_n 2, 1) := by decide +kernel
theorem dd_Office_addTrain_32 : decode prog_5_method_4_code 32 = .ok (.ifCond .lt 18, 3) := by decide +kernel
theorem dd_Office_addTrain_35 : decode prog_5_method_4_code 35 = .ok (.iload_n 2, 1) := by decide +kernel
theorem dd_Office_addTrain_36 : decode prog_5_method_4_code 36 = .ok (.iconst 1, 1) := by decide +kernel
theorem dd_Office_addTrain_37 : decode prog_5_method_4_code 37 = .ok (.if_icmp .gt 13, 3) := by decide +kernel
theorem dd_Office_addTrain_40 : decode prog_5_method_4_code 40 = .ok (.iload_n 3, 1) := by decide +kernel
theorem dd_Office_addTrain_41 : decode prog_5_method_4_code 41 = .ok (.ifCond .lt 9, 3) := by decide +kernel
theorem dd_Office_addTrain_44 : decode prog_5_method_4_code 44 = .ok (.iload_n 3, 1) := by decide +kernel
theorem dd_Office_addTrain_45 : decode prog_5_method_4_code 45 = .ok (.bipush 23, 2) := by decide +kernel
theorem dd_Office_addTrain_47 : decode prog_5_method_4_code 47 = .ok (.if_icmp .le 5, 3) := by decide +kernel
theorem dd_Office_addTrain_52 : decode prog_5_method_4_code 52 = .ok (.aload_n 0, 1) := by decide +kernel
theorem dd_Office_addTrain_53 : decode prog_5_method_4_code 53 = .ok (.getfield 18, 3) := by decide +kernel
theorem dd_Office_addTrain_56 : decode prog_5_method_4_code 56 = .ok (.bipush 6, 2) := by decide +kernel
theorem dd_Office_addTrain_58 : decode prog_5_method_4_code 58 = .ok (.if_icmp .lt 6, 3) := by decide +kernel
theorem dd_Office_addTrain_61 : decode prog_5_method_4_code 61 = .ok (.bipush (-5), 2) := by decide +kernel
theorem dd_Office_addTrain_63 : decode prog_5_method_4_code 63 = .ok (.ireturn, 1) := by decide +kernel
theorem dd_Office_addTrain_64 : decode prog_5_method_4_code 64 = .ok (.aload_n 0, 1) := by decide +kernel
theorem dd_Office_addTrain_65 : decode prog_5_method_4_code 65 = .ok (.getfield 22, 3) := by decide +kernel
theorem dd_Office_addTrain_68 : decode prog_5_method_4_code 68 = .ok (.aload_n 0, 1) := by decide +kernel
theorem dd_Office_addTrain_69 : decode prog_5_method_4_code 69 = .ok (.getfield 18, 3) := by decide +kernel
theorem dd_Office_addTrain_72 : decode prog_5_method_4_code 72 = .ok (.iload_n 1, 1) := by decide +kernel
theorem dd_Office_addTrain_73 : decode prog_5_method_4_code 73 = .ok (.iastore, 1) := by decide +kernel
theorem dd_Office_addTrain_74 : decode prog_5_method_4_code 74 = .ok (.aload_n 0, 1) := by decide +kernel
theorem dd_Office_addTrain_75 : decode prog_5_method_4_code 75 = .ok (.getfield 26, 3) := by decide +kernel
theorem dd_Office_addTrain_78 : decode prog_5_method_4_code 78 = .ok (.aload_n 0, 1) := by decide +kernel
theorem dd_Office_addTrain_79 : decode prog_5_method_4_code 79 = .ok (.getfield 18, 3) := by decide +kernel
theorem dd_Office_addTrain_82 : decode prog_5_method_4_code 82 = .ok (.iload_n 2, 1) := by decide +kernel
theorem dd_Office_addTrain_83 : decode prog_5_method_4_code 83 = .ok (.iastore, 1) := by decide +kernel
theorem dd_Office_addTrain_84 : decode prog_5_method_4_code 84 = .ok (.aload_n 0, 1) := by decide +kernel
theorem dd_Office_addTrain_85 : decode prog_5_method_4_code 85 = .ok (.getfield 29, 3) := by decide +kernel
theorem dd_Office_addTrain_88 : decode prog_5_method_4_code 88 = .ok (.aload_n 0, 1) := by decide +kernel
theorem dd_Office_addTrain_89 : decode prog_5_method_4_code 89 = .ok (.getfield 18, 3) := by decide +kernel
theorem dd_Office_addTrain_92 : decode prog_5_method_4_code 92 = .ok (.iload_n 3, 1) := by decide +kernel
theorem dd_Office_addTrain_93 : decode prog_5_method_4_code 93 = .ok (.iastore, 1) := by decide +kernel
theorem dd_Office_addTrain_94 : decode prog_5_method_4_code 94 = .ok (.aload_n 0, 1) := by decide +kernel
theorem dd_Office_addTrain_95 : decode prog_5_method_4_code 95 = .ok (.dup, 1) := by decide +kernel
theorem dd_Office_addTrain_96 : decode prog_5_method_4_code 96 = .ok (.getfield 18, 3) := by decide +kernel
theorem dd_Office_addTrain_99 : decode prog_5_method_4_code 99 = .ok (.iconst 1, 1) := by decide +kernel
theorem dd_Office_addTrain_100 : decode prog_5_method_4_code 100 = .ok (.iadd, 1) := by decide +kernel
theorem dd_Office_addTrain_101 : decode prog_5_method_4_code 101 = .ok (.putfield 18, 3) := by decide +kernel
theorem dd_Office_addTrain_104 : decode prog_5_method_4_code 104 = .ok (.aload_n 0, 1) := by decide +kernel
theorem dd_Office_addTrain_105 : decode prog_5_method_4_code 105 = .ok (.getfield 18, 3) := by decide +kernel
theorem dd_Office_addTrain_108 : decode prog_5_method_4_code 108 = .ok (.iconst 1, 1) := by decide +kernel
theorem dd_Office_addTrain_109 : decode prog_5_method_4_code 109 = .ok (.isub, 1) := by decide +kernel
theorem dd_Office_addTrain_110 : decode prog_5_method_4_code 110 = .ok (.ireturn, 1) := by decide +kernel
theorem dd_Office_addTrain_50 : decode prog_5_method_4_code 50 = .ok (.iconst (-1), 1) := by decide +kernel
theorem dd_Office_addTrain_51 : decode prog_5_method_4_code 51 = .ok (.ireturn, 1) := by decide +kernel
def jx_Office_addTrain (p0 : Option Nat) (p1 : Int32) (p2 : Int32) (p3 : Int32) : sf_M (Int32) :=
  sf_bnd (α := (Int32)) (
  sf_or (α := (Int32)) (β := (Unit)) (
  if p1 < 0 then (
  sf_ret (.inr ())
  ) else (
  if (255 : Int32) < p1 then (
  sf_ret (.inr ())
  ) else (
  sf_bnd (jx_Integer_bitCount p1) fun x3 =>
  if x3 < (2 : Int32) then (
  sf_ret (.inr ())
  ) else (
  sf_ret (.inl (1 : Int32))
  )
  )
  )
  ) (fun v5 =>
  sf_ret (0 : Int32)
  )
  ) (fun v6 =>
  if v6 = 0 then (
  sf_ret (-1 : Int32)
  ) else (
  if p2 < 0 then (
  sf_ret (-1 : Int32)
  ) else (
  if (1 : Int32) < p2 then (
  sf_ret (-1 : Int32)
  ) else (
  if p3 < 0 then (
  sf_ret (-1 : Int32)
  ) else (
  if p3 ≤ (23 : Int32) then (
  sf_bnd (sf_gI 4 1 p0) fun x12 =>
  if x12 < (6 : Int32) then (
  sf_bnd (sf_gR 4 2 p0) fun x14 =>
  sf_bnd (sf_gI 4 1 p0) fun x15 =>
  sf_bnd (sf_sI 0 x14 x15 p1) fun _ =>
  sf_bnd (sf_gR 4 3 p0) fun x16 =>
  sf_bnd (sf_gI 4 1 p0) fun x17 =>
  sf_bnd (sf_sI 0 x16 x17 p2) fun _ =>
  sf_bnd (sf_gR 4 4 p0) fun x18 =>
  sf_bnd (sf_gI 4 1 p0) fun x19 =>
  sf_bnd (sf_sI 0 x18 x19 p3) fun _ =>
  sf_bnd (sf_gI 4 1 p0) fun x20 =>
  sf_bnd (sf_pI 4 1 p0 (x20 + (1 : Int32))) fun _ =>
  sf_bnd (sf_gI 4 1 p0) fun x21 =>
  sf_ret (x21 - (1 : Int32))
  ) else (
  sf_ret (-5 : Int32)
  )
  ) else (
  sf_ret (-1 : Int32)
  )
  )
  )
  )
  )
  )
set_option maxRecDepth 20000 in
set_option maxHeartbeats 4000000 in
theorem ok_Office_addTrain (p0 : Option Nat) (p1 : Int32) (p2 : Int32) (p3 : Int32) : sf_Ok ({ cls := "SplitFares$Office", name := "addTrain", desc := "(III)I" } : Jvm.MethodName) prog_5_method_4_code 5 (some .int) 1 [sf_rv p0, .int p1, .int p2, .int p3] (jx_Office_addTrain p0 p1 p2 p3) (fun r => some (.int r)) := by
  refine sf_Ok.of (env := [some (sf_rv p0), some (.int p1), some (.int p2), some (.int p3), none]) (plainFor_of_name (by decide)) [false, false, false, false] (fun G => ⟨pk_r, pk_i, pk_i, pk_i, trivial⟩) (Nat.le_of_ble_eq_true rfl) rfl (fun X => ?_)
  unfold jx_Office_addTrain
  refine fp_iload_n (i := 1) (x := p1) dd_Office_addTrain_0 rfl rfl (fr_pc (pc' := 1) rfl ?_)
  refine fr_bnd (l1 := (fun (v6 : (Int32)) => sf_p 24 [some (sf_rv p0), some (.int p1), some (.int p2), some (.int p3), none] [.int v6])) ?_ (fun v6 => ?_)
  · refine fr_or (l1 := (fun (v5 : (Unit)) => sf_p 23 [some (sf_rv p0), some (.int p1), some (.int p2), some (.int p3), none] [])) ?_ (fun v5 => ?_)
    · refine fr_if_lt (tgt := 23) dd_Office_addTrain_1 rfl (fun _ => ?_) (fun _ => ?_)
      · exact fr_ret rfl
      · refine fr_pc (pc' := 4) rfl ?_
        refine fp_iload_n (i := 1) (x := p1) dd_Office_addTrain_4 rfl rfl (fr_pc (pc' := 5) rfl ?_)
        refine fp_sipush (v := (255 : Int32)) dd_Office_addTrain_5 (by decide) (fr_pc (pc' := 8) rfl ?_)
        refine fr_icmp_gt (tgt := 23) dd_Office_addTrain_8 rfl (fun _ => ?_) (fun _ => ?_)
        · exact fr_ret rfl
        · refine fr_pc (pc' := 11) rfl ?_
          refine fp_iload_n (i := 1) (x := p1) dd_Office_addTrain_11 rfl rfl (fr_pc (pc' := 12) rfl ?_)
          refine fr_callS (stk := []) (ok_Integer_bitCount p1) mt_Integer_bitCount rfl rfl sw_364 sw_365 (by decide) (Nat.le_of_ble_eq_true rfl) dd_Office_addTrain_12 (fun x3 => fr_to (pc' := 15) (env' := [some (sf_rv p0), some (.int p1), some (.int p2), some (.int p3), none]) (stk' := [.int x3]) rfl rfl rfl ?_)
          refine fp_iconst (v := (2 : Int32)) dd_Office_addTrain_15 (by decide) (fr_pc (pc' := 16) rfl ?_)
          refine fr_icmp_lt (tgt := 23) dd_Office_addTrain_16 rfl (fun _ => ?_) (fun _ => ?_)
          · exact fr_ret rfl
          · refine fr_pc (pc' := 19) rfl ?_
            refine fp_iconst (v := (1 : Int32)) dd_Office_addTrain_19 (by decide) (fr_pc (pc' := 20) rfl ?_)
            refine fp_goto (tgt := 24) dd_Office_addTrain_20 rfl ?_
            exact fr_ret rfl
    · refine fp_iconst (v := (0 : Int32)) dd_Office_addTrain_23 (by decide) (fr_pc (pc' := 24) rfl ?_)
      exact fr_ret rfl
  · refine fp_istore (i := 4) dd_Office_addTrain_24 (Nat.le_of_ble_eq_true rfl) (fun _ => c1_i rfl) (fr_to (pc' := 26) (env' := [some (sf_rv p0), some (.int p1), some (.int p2), some (.int p3), some (.int v6)]) (stk' := []) rfl rfl rfl ?_)
    refine fp_iload (i := 4) (x := v6) dd_Office_addTrain_26 rfl (fr_pc (pc' := 28) rfl ?_)
    refine fr_if_eq (tgt := 50) dd_Office_addTrain_28 rfl (fun _ => ?_) (fun _ => ?_)
    · refine fp_iconst (v := (-1 : Int32)) dd_Office_addTrain_50 (by decide) (fr_pc (pc' := 51) rfl ?_)
      exact fr_iret (v := (-1 : Int32)) rfl rfl dd_Office_addTrain_51
    · refine fr_pc (pc' := 31) rfl ?_
      refine fp_iload_n (i := 2) (x := p2) dd_Office_addTrain_31 rfl rfl (fr_pc (pc' := 32) rfl ?_)
      refine fr_if_lt (tgt := 50) dd_Office_addTrain_32 rfl (fun _ => ?_) (fun _ => ?_)
      · refine fp_iconst (v := (-1 : Int32)) dd_Office_addTrain_50 (by decide) (fr_pc (pc' := 51) rfl ?_)
        exact fr_iret (v := (-1 : Int32)) rfl rfl dd_Office_addTrain_51
      · refine fr_pc (pc' := 35) rfl ?_
        refine fp_iload_n (i := 2) (x := p2) dd_Office_addTrain_35 rfl rfl (fr_pc (pc' := 36) rfl ?_)
        refine fp_iconst (v := (1 : Int32)) dd_Office_addTrain_36 (by decide) (fr_pc (pc' := 37) rfl ?_)
        refine fr_icmp_gt (tgt := 50) dd_Office_addTrain_37 rfl (fun _ => ?_) (fun _ => ?_)
        · refine fp_iconst (v := (-1 : Int32)) dd_Office_addTrain_50 (by decide) (fr_pc (pc' := 51) rfl ?_)
          exact fr_iret (v := (-1 : Int32)) rfl rfl dd_Office_addTrain_51
        · refine fr_pc (pc' := 40) rfl ?_
          refine fp_iload_n (i := 3) (x := p3) dd_Office_addTrain_40 rfl rfl (fr_pc (pc' := 41) rfl ?_)
          refine fr_if_lt (tgt := 50) dd_Office_addTrain_41 rfl (fun _ => ?_) (fun _ => ?_)
          · refine fp_iconst (v := (-1 : Int32)) dd_Office_addTrain_50 (by decide) (fr_pc (pc' := 51) rfl ?_)
            exact fr_iret (v := (-1 : Int32)) rfl rfl dd_Office_addTrain_51
          · refine fr_pc (pc' := 44) rfl ?_
            refine fp_iload_n (i := 3) (x := p3) dd_Office_addTrain_44 rfl rfl (fr_pc (pc' := 45) rfl ?_)
            refine fp_bipush (v := (23 : Int32)) dd_Office_addTrain_45 (by decide) (fr_pc (pc' := 47) rfl ?_)
            refine fr_icmp_le (tgt := 52) dd_Office_addTrain_47 rfl (fun _ => ?_) (fun _ => ?_)
            · refine fp_aload_n (i := 0) (r := p0) dd_Office_addTrain_52 rfl rfl (fr_pc (pc' := 53) rfl ?_)
              refine fr_gI cl_4 1 (by decide) rfl sw_89 dd_Office_addTrain_53 (fun x12 => fr_pc (pc' := 56) rfl ?_)
              refine fp_bipush (v := (6 : Int32)) dd_Office_addTrain_56 (by decide) (fr_pc (pc' := 58) rfl ?_)
              refine fr_icmp_lt (tgt := 64) dd_Office_addTrain_58 rfl (fun _ => ?_) (fun _ => ?_)
              · refine fp_aload_n (i := 0) (r := p0) dd_Office_addTrain_64 rfl rfl (fr_pc (pc' := 65) rfl ?_)
                refine fr_gR cl_4 2 (by decide) rfl sw_92 dd_Office_addTrain_65 (fun x14 => fr_pc (pc' := 68) rfl ?_)
                refine fp_aload_n (i := 0) (r := p0) dd_Office_addTrain_68 rfl rfl (fr_pc (pc' := 69) rfl ?_)
                refine fr_gI cl_4 1 (by decide) rfl sw_89 dd_Office_addTrain_69 (fun x15 => fr_pc (pc' := 72) rfl ?_)
                refine fp_iload_n (i := 1) (x := p1) dd_Office_addTrain_72 rfl rfl (fr_pc (pc' := 73) rfl ?_)
                refine fr_sI0 dd_Office_addTrain_73 (fr_pc (pc' := 74) rfl ?_)
                refine fp_aload_n (i := 0) (r := p0) dd_Office_addTrain_74 rfl rfl (fr_pc (pc' := 75) rfl ?_)
                refine fr_gR cl_4 3 (by decide) rfl sw_95 dd_Office_addTrain_75 (fun x16 => fr_pc (pc' := 78) rfl ?_)
                refine fp_aload_n (i := 0) (r := p0) dd_Office_addTrain_78 rfl rfl (fr_pc (pc' := 79) rfl ?_)
                refine fr_gI cl_4 1 (by decide) rfl sw_89 dd_Office_addTrain_79 (fun x17 => fr_pc (pc' := 82) rfl ?_)
                refine fp_iload_n (i := 2) (x := p2) dd_Office_addTrain_82 rfl rfl (fr_pc (pc' := 83) rfl ?_)
                refine fr_sI0 dd_Office_addTrain_83 (fr_pc (pc' := 84) rfl ?_)
                refine fp_aload_n (i := 0) (r := p0) dd_Office_addTrain_84 rfl rfl (fr_pc (pc' := 85) rfl ?_)
                refine fr_gR cl_4 4 (by decide) rfl sw_97 dd_Office_addTrain_85 (fun x18 => fr_pc (pc' := 88) rfl ?_)
                refine fp_aload_n (i := 0) (r := p0) dd_Office_addTrain_88 rfl rfl (fr_pc (pc' := 89) rfl ?_)
                refine fr_gI cl_4 1 (by decide) rfl sw_89 dd_Office_addTrain_89 (fun x19 => fr_pc (pc' := 92) rfl ?_)
                refine fp_iload_n (i := 3) (x := p3) dd_Office_addTrain_92 rfl rfl (fr_pc (pc' := 93) rfl ?_)
                refine fr_sI0 dd_Office_addTrain_93 (fr_pc (pc' := 94) rfl ?_)
                refine fp_aload_n (i := 0) (r := p0) dd_Office_addTrain_94 rfl rfl (fr_pc (pc' := 95) rfl ?_)
                refine fp_dup_r dd_Office_addTrain_95 (fr_pc (pc' := 96) rfl ?_)
                refine fr_gI cl_4 1 (by decide) rfl sw_89 dd_Office_addTrain_96 (fun x20 => fr_pc (pc' := 99) rfl ?_)
                refine fp_iconst (v := (1 : Int32)) dd_Office_addTrain_99 (by decide) (fr_pc (pc' := 100) rfl ?_)
                refine fp_iadd dd_Office_addTrain_100 (fr_pc (pc' := 101) rfl ?_)
                refine fr_pI cl_4 1 (by decide) rfl sw_89 rfl ⟨rfl, rfl⟩ dd_Office_addTrain_101 (fr_pc (pc' := 104) rfl ?_)
                refine fp_aload_n (i := 0) (r := p0) dd_Office_addTrain_104 rfl rfl (fr_pc (pc' := 105) rfl ?_)
                refine fr_gI cl_4 1 (by decide) rfl sw_89 dd_Office_addTrain_105 (fun x21 => fr_pc (pc' := 108) rfl ?_)
                refine fp_iconst (v := (1 : Int32)) dd_Office_addTrain_108 (by decide) (fr_pc (pc' := 109) rfl ?_)
                refine fp_isub dd_Office_addTrain_109 (fr_pc (pc' := 110) rfl ?_)
                exact fr_iret (v := (x21 - (1 : Int32))) rfl rfl dd_Office_addTrain_110
              · refine fr_pc (pc' := 61) rfl ?_
                refine fp_bipush (v := (-5 : Int32)) dd_Office_addTrain_61 (by decide) (fr_pc (pc' := 63) rfl ?_)
                exact fr_iret (v := (-5 : Int32)) rfl rfl dd_Office_addTrain_63
            · refine fr_pc (pc' := 50) rfl ?_
              refine fp_iconst (v := (-1 : Int32)) dd_Office_addTrain_50 (by decide) (fr_pc (pc' := 51) rfl ?_)
              exact fr_iret (v := (-1 : Int32)) rfl rfl dd_Office_addTrain_51
theorem mt_Office_hasTrain : sf_Mt ({ cls := "SplitFares$Office", name := "hasTrain", desc := "(I)Z" } : Jvm.MethodName) prog_5_method_3_code 2 (some .boolean) 1 := ⟨sw_389, sw_3, ⟨by decide, by decide, by decide +kernel⟩, by decide⟩
theorem dd_Office_hasTrain_0 : decode prog_5_method_3_code 0 = .ok (.iload_n 1, 1) := by decide +kernel
theorem dd_Office_hasTrain_1 : decode prog_5_method_3_code 1 = .ok (.ifCond .lt 21, 3) := by decide +kernel
theorem dd_Office_hasTrain_4 : decode prog_5_method_3_code 4 = .ok (.iload_n 1, 1) := by decide +kernel
theorem dd_Office_hasTrain_5 : decode prog_5_method_3_code 5 = .ok (.aload_n 0, 1) := by decide +kernel
theorem dd_Office_hasTrain_6 : decode prog_5_method_3_code 6 = .ok (.getfield 18, 3) := by decide +kernel
theorem dd_Office_hasTrain_9 : decode prog_5_method_3_code 9 = .ok (.if_icmp .ge 13, 3) := by decide +kernel
theorem dd_Office_hasTrain_12 : decode prog_5_method_3_code 12 = .ok (.iload_n 1, 1) := by decide +kernel
theorem dd_Office_hasTrain_13 : decode prog_5_method_3_code 13 = .ok (.bipush 6, 2) := by decide +kernel
theorem dd_Office_hasTrain_15 : decode prog_5_method_3_code 15 = .ok (.if_icmp .ge 7, 3) := by decide +kernel
theorem dd_Office_hasTrain_18 : decode prog_5_method_3_code 18 = .ok (.iconst 1, 1) := by decide +kernel
theorem dd_Office_hasTrain_19 : decode prog_5_method_3_code 19 = .ok (.goto 4, 3) := by decide +kernel
theorem dd_Office_hasTrain_22 : decode prog_5_method_3_code 22 = .ok (.iconst 0, 1) := by decide +kernel
theorem dd_Office_hasTrain_23 : decode prog_5_method_3_code 23 = .ok (.ireturn, 1) := by decide +kernel
def jx_Office_hasTrain (p0 : Option Nat) (p1 : Int32) : sf_M (Int32) :=
  if p1 < 0 then (
  sf_ret (0 : Int32)
  ) else (
  sf_bnd (sf_gI 4 1 p0) fun x2 =>
  if x2 ≤ p1 then (
  sf_ret (0 : Int32)
  ) else (
  if (6 : Int32) ≤ p1 then (
  sf_ret (0 : Int32)
  ) else (
  sf_ret (1 : Int32)
  )
  )
  )
set_option maxRecDepth 20000 in
set_option maxHeartbeats 4000000 in
theorem ok_Office_hasTrain (p0 : Option Nat) (p1 : Int32) : sf_Ok ({ cls := "SplitFares$Office", name := "hasTrain", desc := "(I)Z" } : Jvm.MethodName) prog_5_method_3_code 2 (some .boolean) 0 [sf_rv p0, .int p1] (jx_Office_hasTrain p0 p1) (fun r => some (.int r)) := by
  refine sf_Ok.of (env := [some (sf_rv p0), some (.int p1)]) (plainFor_of_name (by decide)) [false, false] (fun G => ⟨pk_r, pk_i, trivial⟩) (Nat.le_of_ble_eq_true rfl) rfl (fun X => ?_)
  unfold jx_Office_hasTrain
  refine fp_iload_n (i := 1) (x := p1) dd_Office_hasTrain_0 rfl rfl (fr_pc (pc' := 1) rfl ?_)
  refine fr_if_lt (tgt := 22) dd_Office_hasTrain_1 rfl (fun _ => ?_) (fun _ => ?_)
  · refine fp_iconst (v := (0 : Int32)) dd_Office_hasTrain_22 (by decide) (fr_pc (pc' := 23) rfl ?_)
    exact fr_zret0 (v := (0 : Int32)) (Or.inl rfl) rfl rfl dd_Office_hasTrain_23
  · refine fr_pc (pc' := 4) rfl ?_
    refine fp_iload_n (i := 1) (x := p1) dd_Office_hasTrain_4 rfl rfl (fr_pc (pc' := 5) rfl ?_)
    refine fp_aload_n (i := 0) (r := p0) dd_Office_hasTrain_5 rfl rfl (fr_pc (pc' := 6) rfl ?_)
    refine fr_gI cl_4 1 (by decide) rfl sw_89 dd_Office_hasTrain_6 (fun x2 => fr_pc (pc' := 9) rfl ?_)
    refine fr_icmp_ge (tgt := 22) dd_Office_hasTrain_9 rfl (fun _ => ?_) (fun _ => ?_)
    · refine fp_iconst (v := (0 : Int32)) dd_Office_hasTrain_22 (by decide) (fr_pc (pc' := 23) rfl ?_)
      exact fr_zret0 (v := (0 : Int32)) (Or.inl rfl) rfl rfl dd_Office_hasTrain_23
    · refine fr_pc (pc' := 12) rfl ?_
      refine fp_iload_n (i := 1) (x := p1) dd_Office_hasTrain_12 rfl rfl (fr_pc (pc' := 13) rfl ?_)
      refine fp_bipush (v := (6 : Int32)) dd_Office_hasTrain_13 (by decide) (fr_pc (pc' := 15) rfl ?_)
      refine fr_icmp_ge (tgt := 22) dd_Office_hasTrain_15 rfl (fun _ => ?_) (fun _ => ?_)
      · refine fp_iconst (v := (0 : Int32)) dd_Office_hasTrain_22 (by decide) (fr_pc (pc' := 23) rfl ?_)
        exact fr_zret0 (v := (0 : Int32)) (Or.inl rfl) rfl rfl dd_Office_hasTrain_23
      · refine fr_pc (pc' := 18) rfl ?_
        refine fp_iconst (v := (1 : Int32)) dd_Office_hasTrain_18 (by decide) (fr_pc (pc' := 19) rfl ?_)
        refine fp_goto (tgt := 23) dd_Office_hasTrain_19 rfl ?_
        exact fr_zret0 (v := (1 : Int32)) (Or.inr rfl) rfl rfl dd_Office_hasTrain_23
theorem mt_Office_lawOf : sf_Mt ({ cls := "SplitFares$Office", name := "lawOf", desc := "(I)LSplitFares$Program;" } : Jvm.MethodName) prog_5_method_9_code 2 (some (.object "SplitFares$Program")) 1 := ⟨sw_410, sw_3, ⟨by decide, by decide, by decide +kernel⟩, by decide⟩
theorem dd_Office_lawOf_0 : decode prog_5_method_9_code 0 = .ok (.iload_n 1, 1) := by decide +kernel
theorem dd_Office_lawOf_1 : decode prog_5_method_9_code 1 = .ok (.ifCond .lt 26, 3) := by decide +kernel
theorem dd_Office_lawOf_4 : decode prog_5_method_9_code 4 = .ok (.iload_n 1, 1) := by decide +kernel
theorem dd_Office_lawOf_5 : decode prog_5_method_9_code 5 = .ok (.aload_n 0, 1) := by decide +kernel
theorem dd_Office_lawOf_6 : decode prog_5_method_9_code 6 = .ok (.getfield 32, 3) := by decide +kernel
theorem dd_Office_lawOf_9 : decode prog_5_method_9_code 9 = .ok (.if_icmp .ge 18, 3) := by decide +kernel
theorem dd_Office_lawOf_12 : decode prog_5_method_9_code 12 = .ok (.iload_n 1, 1) := by decide +kernel
theorem dd_Office_lawOf_13 : decode prog_5_method_9_code 13 = .ok (.bipush 6, 2) := by decide +kernel
theorem dd_Office_lawOf_15 : decode prog_5_method_9_code 15 = .ok (.if_icmp .ge 12, 3) := by decide +kernel
theorem dd_Office_lawOf_18 : decode prog_5_method_9_code 18 = .ok (.aload_n 0, 1) := by decide +kernel
theorem dd_Office_lawOf_19 : decode prog_5_method_9_code 19 = .ok (.getfield 40, 3) := by decide +kernel
theorem dd_Office_lawOf_22 : decode prog_5_method_9_code 22 = .ok (.iload_n 1, 1) := by decide +kernel
theorem dd_Office_lawOf_23 : decode prog_5_method_9_code 23 = .ok (.aaload, 1) := by decide +kernel
theorem dd_Office_lawOf_24 : decode prog_5_method_9_code 24 = .ok (.goto 4, 3) := by decide +kernel
theorem dd_Office_lawOf_27 : decode prog_5_method_9_code 27 = .ok (.aconst_null, 1) := by decide +kernel
theorem dd_Office_lawOf_28 : decode prog_5_method_9_code 28 = .ok (.areturn, 1) := by decide +kernel
def jx_Office_lawOf (p0 : Option Nat) (p1 : Int32) : sf_M (Option Nat) :=
  if p1 < 0 then (
  sf_ret none
  ) else (
  sf_bnd (sf_gI 4 5 p0) fun x2 =>
  if x2 ≤ p1 then (
  sf_ret none
  ) else (
  if (6 : Int32) ≤ p1 then (
  sf_ret none
  ) else (
  sf_bnd (sf_gR 4 7 p0) fun x5 =>
  sf_bnd (sf_aR 6 x5 p1) fun x6 =>
  sf_ret x6
  )
  )
  )
set_option maxRecDepth 20000 in
set_option maxHeartbeats 4000000 in
theorem ok_Office_lawOf (p0 : Option Nat) (p1 : Int32) : sf_Ok ({ cls := "SplitFares$Office", name := "lawOf", desc := "(I)LSplitFares$Program;" } : Jvm.MethodName) prog_5_method_9_code 2 (some (.object "SplitFares$Program")) 0 [sf_rv p0, .int p1] (jx_Office_lawOf p0 p1) (fun r => some (sf_rv r)) := by
  refine sf_Ok.of (env := [some (sf_rv p0), some (.int p1)]) (plainFor_of_name (by decide)) [false, false] (fun G => ⟨pk_r, pk_i, trivial⟩) (Nat.le_of_ble_eq_true rfl) rfl (fun X => ?_)
  unfold jx_Office_lawOf
  refine fp_iload_n (i := 1) (x := p1) dd_Office_lawOf_0 rfl rfl (fr_pc (pc' := 1) rfl ?_)
  refine fr_if_lt (tgt := 27) dd_Office_lawOf_1 rfl (fun _ => ?_) (fun _ => ?_)
  · refine fp_null dd_Office_lawOf_27 (fr_pc (pc' := 28) rfl ?_)
    exact fr_aret (o := none) rfl ⟨_, rfl⟩ dd_Office_lawOf_28
  · refine fr_pc (pc' := 4) rfl ?_
    refine fp_iload_n (i := 1) (x := p1) dd_Office_lawOf_4 rfl rfl (fr_pc (pc' := 5) rfl ?_)
    refine fp_aload_n (i := 0) (r := p0) dd_Office_lawOf_5 rfl rfl (fr_pc (pc' := 6) rfl ?_)
    refine fr_gI cl_4 5 (by decide) rfl sw_99 dd_Office_lawOf_6 (fun x2 => fr_pc (pc' := 9) rfl ?_)
    refine fr_icmp_ge (tgt := 27) dd_Office_lawOf_9 rfl (fun _ => ?_) (fun _ => ?_)
    · refine fp_null dd_Office_lawOf_27 (fr_pc (pc' := 28) rfl ?_)
      exact fr_aret (o := none) rfl ⟨_, rfl⟩ dd_Office_lawOf_28
    · refine fr_pc (pc' := 12) rfl ?_
      refine fp_iload_n (i := 1) (x := p1) dd_Office_lawOf_12 rfl rfl (fr_pc (pc' := 13) rfl ?_)
      refine fp_bipush (v := (6 : Int32)) dd_Office_lawOf_13 (by decide) (fr_pc (pc' := 15) rfl ?_)
      refine fr_icmp_ge (tgt := 27) dd_Office_lawOf_15 rfl (fun _ => ?_) (fun _ => ?_)
      · refine fp_null dd_Office_lawOf_27 (fr_pc (pc' := 28) rfl ?_)
        exact fr_aret (o := none) rfl ⟨_, rfl⟩ dd_Office_lawOf_28
      · refine fr_pc (pc' := 18) rfl ?_
        refine fp_aload_n (i := 0) (r := p0) dd_Office_lawOf_18 rfl rfl (fr_pc (pc' := 19) rfl ?_)
        refine fr_gR cl_4 7 (by decide) rfl sw_103 dd_Office_lawOf_19 (fun x5 => fr_pc (pc' := 22) rfl ?_)
        refine fp_iload_n (i := 1) (x := p1) dd_Office_lawOf_22 rfl rfl (fr_pc (pc' := 23) rfl ?_)
        refine fr_aR (by decide) (by decide) ar_6 dd_Office_lawOf_23 (fun x6 => fr_pc (pc' := 24) rfl ?_)
        refine fp_goto (tgt := 28) dd_Office_lawOf_24 rfl ?_
        exact fr_aret (o := x6) rfl ⟨_, rfl⟩ dd_Office_lawOf_28
theorem mt_Office_tellWords : sf_Mt ({ cls := "SplitFares$Office", name := "tellWords", desc := "(IIII)V" } : Jvm.MethodName) prog_5_method_14_code 6 none 4 := ⟨sw_421, sw_3, ⟨by decide, by decide, by decide +kernel⟩, by decide⟩
theorem dd_Office_tellWords_0 : decode prog_5_method_14_code 0 = .ok (.aload_n 0, 1) := by decide +kernel
theorem dd_Office_tellWords_1 : decode prog_5_method_14_code 1 = .ok (.getfield 62, 3) := by decide +kernel
theorem dd_Office_tellWords_4 : decode prog_5_method_14_code 4 = .ok (.getfield 132, 3) := by decide +kernel
theorem dd_Office_tellWords_7 : decode prog_5_method_14_code 7 = .ok (.astore 5, 2) := by decide +kernel
theorem dd_Office_tellWords_9 : decode prog_5_method_14_code 9 = .ok (.aload 5, 2) := by decide +kernel
theorem dd_Office_tellWords_11 : decode prog_5_method_14_code 11 = .ok (.iconst 0, 1) := by decide +kernel
theorem dd_Office_tellWords_12 : decode prog_5_method_14_code 12 = .ok (.iload_n 2, 1) := by decide +kernel
theorem dd_Office_tellWords_13 : decode prog_5_method_14_code 13 = .ok (.iastore, 1) := by decide +kernel
theorem dd_Office_tellWords_14 : decode prog_5_method_14_code 14 = .ok (.aload 5, 2) := by decide +kernel
theorem dd_Office_tellWords_16 : decode prog_5_method_14_code 16 = .ok (.iconst 1, 1) := by decide +kernel
theorem dd_Office_tellWords_17 : decode prog_5_method_14_code 17 = .ok (.iload_n 3, 1) := by decide +kernel
theorem dd_Office_tellWords_18 : decode prog_5_method_14_code 18 = .ok (.iastore, 1) := by decide +kernel
theorem dd_Office_tellWords_19 : decode prog_5_method_14_code 19 = .ok (.aload 5, 2) := by decide +kernel
theorem dd_Office_tellWords_21 : decode prog_5_method_14_code 21 = .ok (.iconst 2, 1) := by decide +kernel
theorem dd_Office_tellWords_22 : decode prog_5_method_14_code 22 = .ok (.iload_n 2, 1) := by decide +kernel
theorem dd_Office_tellWords_23 : decode prog_5_method_14_code 23 = .ok (.iload_n 3, 1) := by decide +kernel
theorem dd_Office_tellWords_24 : decode prog_5_method_14_code 24 = .ok (.isub, 1) := by decide +kernel
theorem dd_Office_tellWords_25 : decode prog_5_method_14_code 25 = .ok (.invokestatic 105, 3) := by decide +kernel
theorem dd_Office_tellWords_28 : decode prog_5_method_14_code 28 = .ok (.iastore, 1) := by decide +kernel
theorem dd_Office_tellWords_29 : decode prog_5_method_14_code 29 = .ok (.aload 5, 2) := by decide +kernel
theorem dd_Office_tellWords_31 : decode prog_5_method_14_code 31 = .ok (.iconst 3, 1) := by decide +kernel
theorem dd_Office_tellWords_32 : decode prog_5_method_14_code 32 = .ok (.iload_n 1, 1) := by decide +kernel
theorem dd_Office_tellWords_33 : decode prog_5_method_14_code 33 = .ok (.ifCond .ne 7, 3) := by decide +kernel
theorem dd_Office_tellWords_36 : decode prog_5_method_14_code 36 = .ok (.iconst 0, 1) := by decide +kernel
theorem dd_Office_tellWords_37 : decode prog_5_method_14_code 37 = .ok (.goto 4, 3) := by decide +kernel
theorem dd_Office_tellWords_40 : decode prog_5_method_14_code 40 = .ok (.iconst 1, 1) := by decide +kernel
theorem dd_Office_tellWords_41 : decode prog_5_method_14_code 41 = .ok (.iastore, 1) := by decide +kernel
theorem dd_Office_tellWords_42 : decode prog_5_method_14_code 42 = .ok (.aload 5, 2) := by decide +kernel
theorem dd_Office_tellWords_44 : decode prog_5_method_14_code 44 = .ok (.iconst 4, 1) := by decide +kernel
theorem dd_Office_tellWords_45 : decode prog_5_method_14_code 45 = .ok (.iload 4, 2) := by decide +kernel
theorem dd_Office_tellWords_47 : decode prog_5_method_14_code 47 = .ok (.iastore, 1) := by decide +kernel
theorem dd_Office_tellWords_48 : decode prog_5_method_14_code 48 = .ok (.aload 5, 2) := by decide +kernel
theorem dd_Office_tellWords_50 : decode prog_5_method_14_code 50 = .ok (.iconst 5, 1) := by decide +kernel
theorem dd_Office_tellWords_51 : decode prog_5_method_14_code 51 = .ok (.aload_n 0, 1) := by decide +kernel
theorem dd_Office_tellWords_52 : decode prog_5_method_14_code 52 = .ok (.getfield 12, 3) := by decide +kernel
theorem dd_Office_tellWords_55 : decode prog_5_method_14_code 55 = .ok (.getfield 94, 3) := by decide +kernel
theorem dd_Office_tellWords_58 : decode prog_5_method_14_code 58 = .ok (.iastore, 1) := by decide +kernel
theorem dd_Office_tellWords_59 : decode prog_5_method_14_code 59 = .ok (.aload 5, 2) := by decide +kernel
theorem dd_Office_tellWords_61 : decode prog_5_method_14_code 61 = .ok (.bipush 6, 2) := by decide +kernel
theorem dd_Office_tellWords_63 : decode prog_5_method_14_code 63 = .ok (.aload_n 0, 1) := by decide +kernel
theorem dd_Office_tellWords_64 : decode prog_5_method_14_code 64 = .ok (.getfield 56, 3) := by decide +kernel
theorem dd_Office_tellWords_67 : decode prog_5_method_14_code 67 = .ok (.iastore, 1) := by decide +kernel
theorem dd_Office_tellWords_68 : decode prog_5_method_14_code 68 = .ok (.return_, 1) := by decide +kernel
def jx_Office_tellWords (p0 : Option Nat) (p1 : Int32) (p2 : Int32) (p3 : Int32) (p4 : Int32) : sf_M (Unit) :=
  sf_bnd (sf_gR 4 13 p0) fun x1 =>
  sf_bnd (sf_gR 3 0 x1) fun x2 =>
  sf_bnd (sf_sI 0 x2 (0 : Int32) p2) fun _ =>
  sf_bnd (sf_sI 0 x2 (1 : Int32) p3) fun _ =>
  sf_bnd (jx_Math_abs (p2 - p3)) fun x3 =>
  sf_bnd (sf_sI 0 x2 (2 : Int32) x3) fun _ =>
  sf_bnd (α := (Int32)) (
  if p1 = 0 then (
  sf_ret (0 : Int32)
  ) else (
  sf_ret (1 : Int32)
  )
  ) (fun v5 =>
  sf_bnd (sf_sI 0 x2 (3 : Int32) v5) fun _ =>
  sf_bnd (sf_sI 0 x2 (4 : Int32) p4) fun _ =>
  sf_bnd (sf_gR 4 0 p0) fun x6 =>
  sf_bnd (sf_gI 5 3 x6) fun x7 =>
  sf_bnd (sf_sI 0 x2 (5 : Int32) x7) fun _ =>
  sf_bnd (sf_gI 4 12 p0) fun x8 =>
  sf_bnd (sf_sI 0 x2 (6 : Int32) x8) fun _ =>
  sf_ret ()
  )
set_option maxRecDepth 20000 in
set_option maxHeartbeats 4000000 in
theorem ok_Office_tellWords (p0 : Option Nat) (p1 : Int32) (p2 : Int32) (p3 : Int32) (p4 : Int32) : sf_Ok ({ cls := "SplitFares$Office", name := "tellWords", desc := "(IIII)V" } : Jvm.MethodName) prog_5_method_14_code 6 none 1 [sf_rv p0, .int p1, .int p2, .int p3, .int p4] (jx_Office_tellWords p0 p1 p2 p3 p4) (fun _ => none) := by
  refine sf_Ok.of (env := [some (sf_rv p0), some (.int p1), some (.int p2), some (.int p3), some (.int p4), none]) (plainFor_of_name (by decide)) [false, false, false, false, false] (fun G => ⟨pk_r, pk_i, pk_i, pk_i, pk_i, trivial⟩) (Nat.le_of_ble_eq_true rfl) rfl (fun X => ?_)
  unfold jx_Office_tellWords
  refine fp_aload_n (i := 0) (r := p0) dd_Office_tellWords_0 rfl rfl (fr_pc (pc' := 1) rfl ?_)
  refine fr_gR cl_4 13 (by decide) rfl sw_112 dd_Office_tellWords_1 (fun x1 => fr_pc (pc' := 4) rfl ?_)
  refine fr_gR cl_3 0 (by decide) rfl sw_78 dd_Office_tellWords_4 (fun x2 => fr_pc (pc' := 7) rfl ?_)
  refine fp_astore (i := 5) dd_Office_tellWords_7 (Nat.le_of_ble_eq_true rfl) (fun _ => c1_i rfl) (fr_to (pc' := 9) (env' := [some (sf_rv p0), some (.int p1), some (.int p2), some (.int p3), some (.int p4), some (sf_rv x2)]) (stk' := []) rfl rfl rfl ?_)
  refine fp_aload (i := 5) (r := x2) dd_Office_tellWords_9 rfl (fr_pc (pc' := 11) rfl ?_)
  refine fp_iconst (v := (0 : Int32)) dd_Office_tellWords_11 (by decide) (fr_pc (pc' := 12) rfl ?_)
  refine fp_iload_n (i := 2) (x := p2) dd_Office_tellWords_12 rfl rfl (fr_pc (pc' := 13) rfl ?_)
  refine fr_sI0 dd_Office_tellWords_13 (fr_pc (pc' := 14) rfl ?_)
  refine fp_aload (i := 5) (r := x2) dd_Office_tellWords_14 rfl (fr_pc (pc' := 16) rfl ?_)
  refine fp_iconst (v := (1 : Int32)) dd_Office_tellWords_16 (by decide) (fr_pc (pc' := 17) rfl ?_)
  refine fp_iload_n (i := 3) (x := p3) dd_Office_tellWords_17 rfl rfl (fr_pc (pc' := 18) rfl ?_)
  refine fr_sI0 dd_Office_tellWords_18 (fr_pc (pc' := 19) rfl ?_)
  refine fp_aload (i := 5) (r := x2) dd_Office_tellWords_19 rfl (fr_pc (pc' := 21) rfl ?_)
  refine fp_iconst (v := (2 : Int32)) dd_Office_tellWords_21 (by decide) (fr_pc (pc' := 22) rfl ?_)
  refine fp_iload_n (i := 2) (x := p2) dd_Office_tellWords_22 rfl rfl (fr_pc (pc' := 23) rfl ?_)
  refine fp_iload_n (i := 3) (x := p3) dd_Office_tellWords_23 rfl rfl (fr_pc (pc' := 24) rfl ?_)
  refine fp_isub dd_Office_tellWords_24 (fr_pc (pc' := 25) rfl ?_)
  refine fr_callS (stk := [.int (2 : Int32), sf_rv x2]) (ok_Math_abs (p2 - p3)) mt_Math_abs rfl rfl sw_415 sw_416 (by decide) (Nat.le_of_ble_eq_true rfl) dd_Office_tellWords_25 (fun x3 => fr_to (pc' := 28) (env' := [some (sf_rv p0), some (.int p1), some (.int p2), some (.int p3), some (.int p4), some (sf_rv x2)]) (stk' := [.int x3, .int (2 : Int32), sf_rv x2]) rfl rfl rfl ?_)
  refine fr_sI0 dd_Office_tellWords_28 (fr_pc (pc' := 29) rfl ?_)
  refine fp_aload (i := 5) (r := x2) dd_Office_tellWords_29 rfl (fr_pc (pc' := 31) rfl ?_)
  refine fp_iconst (v := (3 : Int32)) dd_Office_tellWords_31 (by decide) (fr_pc (pc' := 32) rfl ?_)
  refine fp_iload_n (i := 1) (x := p1) dd_Office_tellWords_32 rfl rfl (fr_pc (pc' := 33) rfl ?_)
  refine fr_bnd (l1 := (fun (v5 : (Int32)) => sf_p 41 [some (sf_rv p0), some (.int p1), some (.int p2), some (.int p3), some (.int p4), some (sf_rv x2)] [.int v5, .int (3 : Int32), sf_rv x2])) ?_ (fun v5 => ?_)
  · refine fr_if_ne (tgt := 40) dd_Office_tellWords_33 rfl (fun _ => ?_) (fun _ => ?_)
    · refine fr_pc (pc' := 36) rfl ?_
      refine fp_iconst (v := (0 : Int32)) dd_Office_tellWords_36 (by decide) (fr_pc (pc' := 37) rfl ?_)
      refine fp_goto (tgt := 41) dd_Office_tellWords_37 rfl ?_
      exact fr_ret rfl
    · refine fp_iconst (v := (1 : Int32)) dd_Office_tellWords_40 (by decide) (fr_pc (pc' := 41) rfl ?_)
      exact fr_ret rfl
  · refine fr_sI0 dd_Office_tellWords_41 (fr_pc (pc' := 42) rfl ?_)
    refine fp_aload (i := 5) (r := x2) dd_Office_tellWords_42 rfl (fr_pc (pc' := 44) rfl ?_)
    refine fp_iconst (v := (4 : Int32)) dd_Office_tellWords_44 (by decide) (fr_pc (pc' := 45) rfl ?_)
    refine fp_iload (i := 4) (x := p4) dd_Office_tellWords_45 rfl (fr_pc (pc' := 47) rfl ?_)
    refine fr_sI0 dd_Office_tellWords_47 (fr_pc (pc' := 48) rfl ?_)
    refine fp_aload (i := 5) (r := x2) dd_Office_tellWords_48 rfl (fr_pc (pc' := 50) rfl ?_)
    refine fp_iconst (v := (5 : Int32)) dd_Office_tellWords_50 (by decide) (fr_pc (pc' := 51) rfl ?_)
    refine fp_aload_n (i := 0) (r := p0) dd_Office_tellWords_51 rfl rfl (fr_pc (pc' := 52) rfl ?_)
    refine fr_gR cl_4 0 (by decide) rfl sw_85 dd_Office_tellWords_52 (fun x6 => fr_pc (pc' := 55) rfl ?_)
    refine fr_gI cl_5 3 (by decide) rfl sw_56 dd_Office_tellWords_55 (fun x7 => fr_pc (pc' := 58) rfl ?_)
    refine fr_sI0 dd_Office_tellWords_58 (fr_pc (pc' := 59) rfl ?_)
    refine fp_aload (i := 5) (r := x2) dd_Office_tellWords_59 rfl (fr_pc (pc' := 61) rfl ?_)
    refine fp_bipush (v := (6 : Int32)) dd_Office_tellWords_61 (by decide) (fr_pc (pc' := 63) rfl ?_)
    refine fp_aload_n (i := 0) (r := p0) dd_Office_tellWords_63 rfl rfl (fr_pc (pc' := 64) rfl ?_)
    refine fr_gI cl_4 12 (by decide) rfl sw_111 dd_Office_tellWords_64 (fun x8 => fr_pc (pc' := 67) rfl ?_)
    refine fr_sI0 dd_Office_tellWords_67 (fr_pc (pc' := 68) rfl ?_)
    exact fr_vret rfl rfl dd_Office_tellWords_68
theorem mt_Office_costBy : sf_Mt ({ cls := "SplitFares$Office", name := "costBy", desc := "(LSplitFares$Program;III)I" } : Jvm.MethodName) prog_5_method_12_code 8 (some .int) 4 := ⟨sw_414, sw_3, ⟨by decide, by decide, by decide +kernel⟩, by decide⟩
theorem dd_Office_costBy_0 : decode prog_5_method_12_code 0 = .ok (.iload_n 3, 1) := by decide +kernel
theorem dd_Office_costBy_1 : decode prog_5_method_12_code 1 = .ok (.iload 4, 2) := by decide +kernel
theorem dd_Office_costBy_3 : decode prog_5_method_12_code 3 = .ok (.isub, 1) := by decide +kernel
theorem dd_Office_costBy_4 : decode prog_5_method_12_code 4 = .ok (.invokestatic 105, 3) := by decide +kernel
theorem dd_Office_costBy_7 : decode prog_5_method_12_code 7 = .ok (.iload_n 2, 1) := by decide +kernel
theorem dd_Office_costBy_8 : decode prog_5_method_12_code 8 = .ok (.ifCond .ne 8, 3) := by decide +kernel
theorem dd_Office_costBy_11 : decode prog_5_method_12_code 11 = .ok (.bipush 10, 2) := by decide +kernel
theorem dd_Office_costBy_13 : decode prog_5_method_12_code 13 = .ok (.goto 5, 3) := by decide +kernel
theorem dd_Office_costBy_16 : decode prog_5_method_12_code 16 = .ok (.bipush 15, 2) := by decide +kernel
theorem dd_Office_costBy_18 : decode prog_5_method_12_code 18 = .ok (.imul, 1) := by decide +kernel
theorem dd_Office_costBy_19 : decode prog_5_method_12_code 19 = .ok (.istore 5, 2) := by decide +kernel
theorem dd_Office_costBy_21 : decode prog_5_method_12_code 21 = .ok (.aload_n 1, 1) := by decide +kernel
theorem dd_Office_costBy_22 : decode prog_5_method_12_code 22 = .ok (.ifnonnull 6, 3) := by decide +kernel
theorem dd_Office_costBy_25 : decode prog_5_method_12_code 25 = .ok (.iload 5, 2) := by decide +kernel
theorem dd_Office_costBy_27 : decode prog_5_method_12_code 27 = .ok (.ireturn, 1) := by decide +kernel
theorem dd_Office_costBy_28 : decode prog_5_method_12_code 28 = .ok (.aload_n 0, 1) := by decide +kernel
theorem dd_Office_costBy_29 : decode prog_5_method_12_code 29 = .ok (.iload_n 2, 1) := by decide +kernel
theorem dd_Office_costBy_30 : decode prog_5_method_12_code 30 = .ok (.iload_n 3, 1) := by decide +kernel
theorem dd_Office_costBy_31 : decode prog_5_method_12_code 31 = .ok (.iload 4, 2) := by decide +kernel
theorem dd_Office_costBy_33 : decode prog_5_method_12_code 33 = .ok (.iconst (-1), 1) := by decide +kernel
theorem dd_Office_costBy_34 : decode prog_5_method_12_code 34 = .ok (.invokevirtual 110, 3) := by decide +kernel
theorem dd_Office_costBy_37 : decode prog_5_method_12_code 37 = .ok (.aload_n 1, 1) := by decide +kernel
theorem dd_Office_costBy_38 : decode prog_5_method_12_code 38 = .ok (.getfield 114, 3) := by decide +kernel
theorem dd_Office_costBy_41 : decode prog_5_method_12_code 41 = .ok (.iconst 1, 1) := by decide +kernel
theorem dd_Office_costBy_42 : decode prog_5_method_12_code 42 = .ok (.isub, 1) := by decide +kernel
theorem dd_Office_costBy_43 : decode prog_5_method_12_code 43 = .ok (.istore 6, 2) := by decide +kernel
theorem dd_Office_costBy_45 : decode prog_5_method_12_code 45 = .ok (.iload 6, 2) := by decide +kernel
theorem dd_Office_costBy_47 : decode prog_5_method_12_code 47 = .ok (.ifCond .lt 67, 3) := by decide +kernel
theorem dd_Office_costBy_50 : decode prog_5_method_12_code 50 = .ok (.aload_n 1, 1) := by decide +kernel
theorem dd_Office_costBy_51 : decode prog_5_method_12_code 51 = .ok (.iload 6, 2) := by decide +kernel
theorem dd_Office_costBy_53 : decode prog_5_method_12_code 53 = .ok (.iconst 0, 1) := by decide +kernel
theorem dd_Office_costBy_54 : decode prog_5_method_12_code 54 = .ok (.invokevirtual 117, 3) := by decide +kernel
theorem dd_Office_costBy_57 : decode prog_5_method_12_code 57 = .ok (.ifCond .ne 51, 3) := by decide +kernel
theorem dd_Office_costBy_60 : decode prog_5_method_12_code 60 = .ok (.aload_n 0, 1) := by decide +kernel
theorem dd_Office_costBy_61 : decode prog_5_method_12_code 61 = .ok (.getfield 62, 3) := by decide +kernel
theorem dd_Office_costBy_64 : decode prog_5_method_12_code 64 = .ok (.aload_n 1, 1) := by decide +kernel
theorem dd_Office_costBy_65 : decode prog_5_method_12_code 65 = .ok (.iload 6, 2) := by decide +kernel
theorem dd_Office_costBy_67 : decode prog_5_method_12_code 67 = .ok (.iconst 4, 1) := by decide +kernel
theorem dd_Office_costBy_68 : decode prog_5_method_12_code 68 = .ok (.invokevirtual 121, 3) := by decide +kernel
theorem dd_Office_costBy_71 : decode prog_5_method_12_code 71 = .ok (.iconst 1, 1) := by decide +kernel
theorem dd_Office_costBy_72 : decode prog_5_method_12_code 72 = .ok (.if_icmp .ne 36, 3) := by decide +kernel
theorem dd_Office_costBy_75 : decode prog_5_method_12_code 75 = .ok (.aload_n 0, 1) := by decide +kernel
theorem dd_Office_costBy_76 : decode prog_5_method_12_code 76 = .ok (.getfield 62, 3) := by decide +kernel
theorem dd_Office_costBy_79 : decode prog_5_method_12_code 79 = .ok (.aload_n 1, 1) := by decide +kernel
theorem dd_Office_costBy_80 : decode prog_5_method_12_code 80 = .ok (.iload 6, 2) := by decide +kernel
theorem dd_Office_costBy_82 : decode prog_5_method_12_code 82 = .ok (.iconst 2, 1) := by decide +kernel
theorem dd_Office_costBy_83 : decode prog_5_method_12_code 83 = .ok (.invokevirtual 121, 3) := by decide +kernel
theorem dd_Office_costBy_86 : decode prog_5_method_12_code 86 = .ok (.istore 7, 2) := by decide +kernel
theorem dd_Office_costBy_88 : decode prog_5_method_12_code 88 = .ok (.iload 7, 2) := by decide +kernel
theorem dd_Office_costBy_90 : decode prog_5_method_12_code 90 = .ok (.ldc 125, 2) := by decide +kernel
theorem dd_Office_costBy_92 : decode prog_5_method_12_code 92 = .ok (.if_icmp .eq 16, 3) := by decide +kernel
theorem dd_Office_costBy_95 : decode prog_5_method_12_code 95 = .ok (.iconst 0, 1) := by decide +kernel
theorem dd_Office_costBy_96 : decode prog_5_method_12_code 96 = .ok (.sipush 9999, 3) := by decide +kernel
theorem dd_Office_costBy_99 : decode prog_5_method_12_code 99 = .ok (.iload 7, 2) := by decide +kernel
theorem dd_Office_costBy_101 : decode prog_5_method_12_code 101 = .ok (.invokestatic 126, 3) := by decide +kernel
theorem dd_Office_costBy_104 : decode prog_5_method_12_code 104 = .ok (.invokestatic 129, 3) := by decide +kernel
theorem dd_Office_costBy_107 : decode prog_5_method_12_code 107 = .ok (.ireturn, 1) := by decide +kernel
theorem dd_Office_costBy_108 : decode prog_5_method_12_code 108 = .ok (.iinc 6 (-1), 3) := by decide +kernel
theorem dd_Office_costBy_111 : decode prog_5_method_12_code 111 = .ok (.goto (-66), 3) := by decide +kernel
theorem dd_Office_costBy_114 : decode prog_5_method_12_code 114 = .ok (.iload 5, 2) := by decide +kernel
theorem dd_Office_costBy_116 : decode prog_5_method_12_code 116 = .ok (.ireturn, 1) := by decide +kernel
def jx_Office_costBy (p0 : Option Nat) (p1 : Option Nat) (p2 : Int32) (p3 : Int32) (p4 : Int32) : sf_M (Int32) :=
  sf_bnd (jx_Math_abs (p3 - p4)) fun x1 =>
  sf_bnd (α := (Int32)) (
  if p2 = 0 then (
  sf_ret (10 : Int32)
  ) else (
  sf_ret (15 : Int32)
  )
  ) (fun v3 =>
  sf_bnd (sf_ret ((x1 * v3))) fun y4 =>
  if p1 = none then (
  sf_ret y4
  ) else (
  sf_bnd (sf_rc 4 p0 (jx_Office_tellWords p0 p2 p3 p4 (-1 : Int32))) fun _ =>
  sf_bnd (sf_gI 6 4 p1) fun x7 =>
  sf_bnd (sf_ret ((x7 - (1 : Int32)))) fun y8 =>
  sf_or (α := Int32) (β := (Unit)) (sf_loop (β := (Int32)) (γ := (Int32 ⊕ (Unit))) (fun b9 =>
  if b9 < 0 then (
  sf_ret (.inr (.inr ()))
  ) else (
  sf_bnd (sf_rc 6 p1 (jx_Program_noted p1 b9 (0 : Int32))) fun x11 =>
  if x11 = 0 then (
  sf_bnd (sf_gR 4 13 p0) fun x13 =>
  sf_bnd (sf_rc 3 x13 (jx_Machine_evaluate x13 p1 b9 (4 : Int32))) fun x14 =>
  if x14 = (1 : Int32) then (
  sf_bnd (sf_gR 4 13 p0) fun x16 =>
  sf_bnd (sf_rc 3 x16 (jx_Machine_evaluate x16 p1 b9 (2 : Int32))) fun x17 =>
  if x17 = (-2000000000 : Int32) then (
  sf_bnd (sf_ret (b9 + (-1 : Int32))) fun y19 =>
  sf_ret (.inl y19)
  ) else (
  sf_bnd (jx_Math_min (9999 : Int32) x17) fun x20 =>
  sf_bnd (jx_Math_max (0 : Int32) x20) fun x21 =>
  sf_ret (.inr (.inl x21))
  )
  ) else (
  sf_bnd (sf_ret (b9 + (-1 : Int32))) fun y22 =>
  sf_ret (.inl y22)
  )
  ) else (
  sf_bnd (sf_ret (b9 + (-1 : Int32))) fun y23 =>
  sf_ret (.inl y23)
  )
  )
  ) sf_fuel y8) (fun e24 =>
  sf_ret y4
  )
  )
  )
set_option maxRecDepth 20000 in
set_option maxHeartbeats 4000000 in
theorem ok_Office_costBy (p0 : Option Nat) (p1 : Option Nat) (p2 : Int32) (p3 : Int32) (p4 : Int32) : sf_Ok ({ cls := "SplitFares$Office", name := "costBy", desc := "(LSplitFares$Program;III)I" } : Jvm.MethodName) prog_5_method_12_code 8 (some .int) 2 [sf_rv p0, sf_rv p1, .int p2, .int p3, .int p4] (jx_Office_costBy p0 p1 p2 p3 p4) (fun r => some (.int r)) := by
  refine sf_Ok.of (env := [some (sf_rv p0), some (sf_rv p1), some (.int p2), some (.int p3), some (.int p4), none, none, none]) (plainFor_of_name (by decide)) [false, false, false, false, false] (fun G => ⟨pk_r, pk_r, pk_i, pk_i, pk_i, trivial⟩) (Nat.le_of_ble_eq_true rfl) rfl (fun X => ?_)
  unfold jx_Office_costBy
  refine fp_iload_n (i := 3) (x := p3) dd_Office_costBy_0 rfl rfl (fr_pc (pc' := 1) rfl ?_)
  refine fp_iload (i := 4) (x := p4) dd_Office_costBy_1 rfl (fr_pc (pc' := 3) rfl ?_)
  refine fp_isub dd_Office_costBy_3 (fr_pc (pc' := 4) rfl ?_)
  refine fr_callS (stk := []) (ok_Math_abs (p3 - p4)) mt_Math_abs rfl rfl sw_415 sw_416 (by decide) (Nat.le_of_ble_eq_true rfl) dd_Office_costBy_4 (fun x1 => fr_to (pc' := 7) (env' := [some (sf_rv p0), some (sf_rv p1), some (.int p2), some (.int p3), some (.int p4), none, none, none]) (stk' := [.int x1]) rfl rfl rfl ?_)
  refine fp_iload_n (i := 2) (x := p2) dd_Office_costBy_7 rfl rfl (fr_pc (pc' := 8) rfl ?_)
  refine fr_bnd (l1 := (fun (v3 : (Int32)) => sf_p 18 [some (sf_rv p0), some (sf_rv p1), some (.int p2), some (.int p3), some (.int p4), none, none, none] [.int v3, .int x1])) ?_ (fun v3 => ?_)
  · refine fr_if_ne (tgt := 16) dd_Office_costBy_8 rfl (fun _ => ?_) (fun _ => ?_)
    · refine fr_pc (pc' := 11) rfl ?_
      refine fp_bipush (v := (10 : Int32)) dd_Office_costBy_11 (by decide) (fr_pc (pc' := 13) rfl ?_)
      refine fp_goto (tgt := 18) dd_Office_costBy_13 rfl ?_
      exact fr_ret rfl
    · refine fp_bipush (v := (15 : Int32)) dd_Office_costBy_16 (by decide) (fr_pc (pc' := 18) rfl ?_)
      exact fr_ret rfl
  · refine fp_imul dd_Office_costBy_18 (fr_pc (pc' := 19) rfl ?_)
    refine fr_nistore (i := 5) dd_Office_costBy_19 (Nat.le_of_ble_eq_true rfl) (fun _ => c1_i rfl) (fun y4 => fr_to (pc' := 21) (env' := [some (sf_rv p0), some (sf_rv p1), some (.int p2), some (.int p3), some (.int p4), some (.int y4), none, none]) (stk' := []) rfl rfl rfl ?_)
    refine fp_aload_n (i := 1) (r := p1) dd_Office_costBy_21 rfl rfl (fr_pc (pc' := 22) rfl ?_)
    refine fr_ifnonnull (tgt := 28) dd_Office_costBy_22 rfl (fun _ => ?_) (fun _ => ?_)
    · refine fr_pc (pc' := 25) rfl ?_
      refine fp_iload (i := 5) (x := y4) dd_Office_costBy_25 rfl (fr_pc (pc' := 27) rfl ?_)
      exact fr_iret (v := y4) rfl rfl dd_Office_costBy_27
    · refine fp_aload_n (i := 0) (r := p0) dd_Office_costBy_28 rfl rfl (fr_pc (pc' := 29) rfl ?_)
      refine fp_iload_n (i := 2) (x := p2) dd_Office_costBy_29 rfl rfl (fr_pc (pc' := 30) rfl ?_)
      refine fp_iload_n (i := 3) (x := p3) dd_Office_costBy_30 rfl rfl (fr_pc (pc' := 31) rfl ?_)
      refine fp_iload (i := 4) (x := p4) dd_Office_costBy_31 rfl (fr_pc (pc' := 33) rfl ?_)
      refine fp_iconst (v := (-1 : Int32)) dd_Office_costBy_33 (by decide) (fr_pc (pc' := 34) rfl ?_)
      refine fr_callV (stk := []) (As := [.int p2, .int p3, .int p4, .int (-1 : Int32)]) cl_4 (ok_Office_tellWords p0 p2 p3 p4 (-1 : Int32)) mt_Office_tellWords rfl rfl sw_418 sw_420 sp_3 (by decide) (Nat.le_of_ble_eq_true rfl) dd_Office_costBy_34 (fun u6 => fr_to (pc' := 37) (env' := [some (sf_rv p0), some (sf_rv p1), some (.int p2), some (.int p3), some (.int p4), some (.int y4), none, none]) (stk' := []) rfl rfl rfl ?_)
      refine fp_aload_n (i := 1) (r := p1) dd_Office_costBy_37 rfl rfl (fr_pc (pc' := 38) rfl ?_)
      refine fr_gI cl_6 4 (by decide) rfl sw_252 dd_Office_costBy_38 (fun x7 => fr_pc (pc' := 41) rfl ?_)
      refine fp_iconst (v := (1 : Int32)) dd_Office_costBy_41 (by decide) (fr_pc (pc' := 42) rfl ?_)
      refine fp_isub dd_Office_costBy_42 (fr_pc (pc' := 43) rfl ?_)
      refine fr_nistore (i := 6) dd_Office_costBy_43 (Nat.le_of_ble_eq_true rfl) (fun _ => c1_i rfl) (fun y8 => fr_to (pc' := 45) (env' := [some (sf_rv p0), some (sf_rv p1), some (.int p2), some (.int p3), some (.int p4), some (.int y4), some (.int y8), none]) (stk' := []) rfl rfl rfl ?_)
      refine fr_to (pc' := 45) (env' := [some (sf_rv p0), some (sf_rv p1), some (.int p2), some (.int p3), some (.int p4), some (.int y4), some (.int y8), none]) (stk' := []) rfl rfl rfl ?_
      refine fr_or (l1 := (fun (e24 : (Unit)) => sf_p 114 [some (sf_rv p0), some (sf_rv p1), some (.int p2), some (.int p3), some (.int p4), some (.int y4), none, none] [])) (fr_loop (Lb := (fun (b9 : (Int32)) => sf_p 45 [some (sf_rv p0), some (sf_rv p1), some (.int p2), some (.int p3), some (.int p4), some (.int y4), some (.int b9), none] [])) (fun b9 => ?_) _ _) (fun e24 => ?_)
      · refine fp_iload (i := 6) (x := b9) dd_Office_costBy_45 rfl (fr_pc (pc' := 47) rfl ?_)
        refine fr_if_lt (tgt := 114) dd_Office_costBy_47 rfl (fun _ => ?_) (fun _ => ?_)
        · refine fr_wk [true, true, true, true, true, true, false, false] ?_
          exact fr_ret rfl
        · refine fr_pc (pc' := 50) rfl ?_
          refine fp_aload_n (i := 1) (r := p1) dd_Office_costBy_50 rfl rfl (fr_pc (pc' := 51) rfl ?_)
          refine fp_iload (i := 6) (x := b9) dd_Office_costBy_51 rfl (fr_pc (pc' := 53) rfl ?_)
          refine fp_iconst (v := (0 : Int32)) dd_Office_costBy_53 (by decide) (fr_pc (pc' := 54) rfl ?_)
          refine fr_callV (stk := []) (As := [.int b9, .int (0 : Int32)]) cl_6 (ok_Program_noted p1 b9 (0 : Int32)) mt_Program_noted rfl rfl sw_422 sw_423 sw_424 (by decide) (Nat.le_of_ble_eq_true rfl) dd_Office_costBy_54 (fun x11 => fr_to (pc' := 57) (env' := [some (sf_rv p0), some (sf_rv p1), some (.int p2), some (.int p3), some (.int p4), some (.int y4), some (.int b9), none]) (stk' := [.int x11]) rfl rfl rfl ?_)
          refine fr_if_ne (tgt := 108) dd_Office_costBy_57 rfl (fun _ => ?_) (fun _ => ?_)
          · refine fr_pc (pc' := 60) rfl ?_
            refine fp_aload_n (i := 0) (r := p0) dd_Office_costBy_60 rfl rfl (fr_pc (pc' := 61) rfl ?_)
            refine fr_gR cl_4 13 (by decide) rfl sw_112 dd_Office_costBy_61 (fun x13 => fr_pc (pc' := 64) rfl ?_)
            refine fp_aload_n (i := 1) (r := p1) dd_Office_costBy_64 rfl rfl (fr_pc (pc' := 65) rfl ?_)
            refine fp_iload (i := 6) (x := b9) dd_Office_costBy_65 rfl (fr_pc (pc' := 67) rfl ?_)
            refine fp_iconst (v := (4 : Int32)) dd_Office_costBy_67 (by decide) (fr_pc (pc' := 68) rfl ?_)
            refine fr_callV (stk := []) (As := [sf_rv p1, .int b9, .int (4 : Int32)]) cl_3 (ok_Machine_evaluate x13 p1 b9 (4 : Int32)) mt_Machine_evaluate rfl rfl sw_426 sw_427 sw_428 (by decide) (Nat.le_of_ble_eq_true rfl) dd_Office_costBy_68 (fun x14 => fr_to (pc' := 71) (env' := [some (sf_rv p0), some (sf_rv p1), some (.int p2), some (.int p3), some (.int p4), some (.int y4), some (.int b9), none]) (stk' := [.int x14]) rfl rfl rfl ?_)
            refine fp_iconst (v := (1 : Int32)) dd_Office_costBy_71 (by decide) (fr_pc (pc' := 72) rfl ?_)
            refine fr_icmp_ne (tgt := 108) dd_Office_costBy_72 rfl (fun _ => ?_) (fun _ => ?_)
            · refine fr_pc (pc' := 75) rfl ?_
              refine fp_aload_n (i := 0) (r := p0) dd_Office_costBy_75 rfl rfl (fr_pc (pc' := 76) rfl ?_)
              refine fr_gR cl_4 13 (by decide) rfl sw_112 dd_Office_costBy_76 (fun x16 => fr_pc (pc' := 79) rfl ?_)
              refine fp_aload_n (i := 1) (r := p1) dd_Office_costBy_79 rfl rfl (fr_pc (pc' := 80) rfl ?_)
              refine fp_iload (i := 6) (x := b9) dd_Office_costBy_80 rfl (fr_pc (pc' := 82) rfl ?_)
              refine fp_iconst (v := (2 : Int32)) dd_Office_costBy_82 (by decide) (fr_pc (pc' := 83) rfl ?_)
              refine fr_callV (stk := []) (As := [sf_rv p1, .int b9, .int (2 : Int32)]) cl_3 (ok_Machine_evaluate x16 p1 b9 (2 : Int32)) mt_Machine_evaluate rfl rfl sw_426 sw_427 sw_428 (by decide) (Nat.le_of_ble_eq_true rfl) dd_Office_costBy_83 (fun x17 => fr_to (pc' := 86) (env' := [some (sf_rv p0), some (sf_rv p1), some (.int p2), some (.int p3), some (.int p4), some (.int y4), some (.int b9), none]) (stk' := [.int x17]) rfl rfl rfl ?_)
              refine fp_istore (i := 7) dd_Office_costBy_86 (Nat.le_of_ble_eq_true rfl) (fun _ => c1_i rfl) (fr_to (pc' := 88) (env' := [some (sf_rv p0), some (sf_rv p1), some (.int p2), some (.int p3), some (.int p4), some (.int y4), some (.int b9), some (.int x17)]) (stk' := []) rfl rfl rfl ?_)
              refine fp_iload (i := 7) (x := x17) dd_Office_costBy_88 rfl (fr_pc (pc' := 90) rfl ?_)
              refine fp_ldc (v := (-2000000000 : Int32)) dd_Office_costBy_90 sw_456 (fr_pc (pc' := 92) rfl ?_)
              refine fr_icmp_eq (tgt := 108) dd_Office_costBy_92 rfl (fun _ => ?_) (fun _ => ?_)
              · refine fr_niinc (i := 6) (x := b9) (w := (-1 : Int32)) dd_Office_costBy_108 rfl (by decide) (Nat.le_of_ble_eq_true rfl) (fun _ => c1_i rfl) (fun y19 => fr_to (pc' := 111) (env' := [some (sf_rv p0), some (sf_rv p1), some (.int p2), some (.int p3), some (.int p4), some (.int y4), some (.int y19), some (.int x17)]) (stk' := []) rfl rfl rfl ?_)
                refine fp_goto (tgt := 45) dd_Office_costBy_111 rfl ?_
                refine fr_wk [true, true, true, true, true, true, true, false] ?_
                exact fr_ret rfl
              · refine fr_pc (pc' := 95) rfl ?_
                refine fp_iconst (v := (0 : Int32)) dd_Office_costBy_95 (by decide) (fr_pc (pc' := 96) rfl ?_)
                refine fp_sipush (v := (9999 : Int32)) dd_Office_costBy_96 (by decide) (fr_pc (pc' := 99) rfl ?_)
                refine fp_iload (i := 7) (x := x17) dd_Office_costBy_99 rfl (fr_pc (pc' := 101) rfl ?_)
                refine fr_callS (stk := [.int (0 : Int32)]) (ok_Math_min (9999 : Int32) x17) mt_Math_min rfl rfl sw_457 sw_432 (by decide) (Nat.le_of_ble_eq_true rfl) dd_Office_costBy_101 (fun x20 => fr_to (pc' := 104) (env' := [some (sf_rv p0), some (sf_rv p1), some (.int p2), some (.int p3), some (.int p4), some (.int y4), some (.int b9), some (.int x17)]) (stk' := [.int x20, .int (0 : Int32)]) rfl rfl rfl ?_)
                refine fr_callS (stk := []) (ok_Math_max (0 : Int32) x20) mt_Math_max rfl rfl sw_458 sw_448 (by decide) (Nat.le_of_ble_eq_true rfl) dd_Office_costBy_104 (fun x21 => fr_to (pc' := 107) (env' := [some (sf_rv p0), some (sf_rv p1), some (.int p2), some (.int p3), some (.int p4), some (.int y4), some (.int b9), some (.int x17)]) (stk' := [.int x21]) rfl rfl rfl ?_)
                exact fr_iret (v := x21) rfl rfl dd_Office_costBy_107
            · refine fr_niinc (i := 6) (x := b9) (w := (-1 : Int32)) dd_Office_costBy_108 rfl (by decide) (Nat.le_of_ble_eq_true rfl) (fun _ => c1_i rfl) (fun y22 => fr_to (pc' := 111) (env' := [some (sf_rv p0), some (sf_rv p1), some (.int p2), some (.int p3), some (.int p4), some (.int y4), some (.int y22), none]) (stk' := []) rfl rfl rfl ?_)
              refine fp_goto (tgt := 45) dd_Office_costBy_111 rfl ?_
              exact fr_ret rfl
          · refine fr_niinc (i := 6) (x := b9) (w := (-1 : Int32)) dd_Office_costBy_108 rfl (by decide) (Nat.le_of_ble_eq_true rfl) (fun _ => c1_i rfl) (fun y23 => fr_to (pc' := 111) (env' := [some (sf_rv p0), some (sf_rv p1), some (.int p2), some (.int p3), some (.int p4), some (.int y4), some (.int y23), none]) (stk' := []) rfl rfl rfl ?_)
            refine fp_goto (tgt := 45) dd_Office_costBy_111 rfl ?_
            exact fr_ret rfl
      · refine fp_iload (i := 5) (x := y4) dd_Office_costBy_114 rfl (fr_pc (pc' := 116) rfl ?_)
        exact fr_iret (v := y4) rfl rfl dd_Office_costBy_116
theorem mt_Office_costOf : sf_Mt ({ cls := "SplitFares$Office", name := "costOf", desc := "(III)I" } : Jvm.MethodName) prog_5_method_11_code 4 (some .int) 3 := ⟨sw_406, sw_3, ⟨by decide, by decide, by decide +kernel⟩, by decide⟩
theorem dd_Office_costOf_0 : decode prog_5_method_11_code 0 = .ok (.aload_n 0, 1) := by decide +kernel
theorem dd_Office_costOf_1 : decode prog_5_method_11_code 1 = .ok (.aload_n 0, 1) := by decide +kernel
theorem dd_Office_costOf_2 : decode prog_5_method_11_code 2 = .ok (.aload_n 0, 1) := by decide +kernel
theorem dd_Office_costOf_3 : decode prog_5_method_11_code 3 = .ok (.getfield 35, 3) := by decide +kernel
theorem dd_Office_costOf_6 : decode prog_5_method_11_code 6 = .ok (.invokevirtual 97, 3) := by decide +kernel
theorem dd_Office_costOf_9 : decode prog_5_method_11_code 9 = .ok (.iload_n 1, 1) := by decide +kernel
theorem dd_Office_costOf_10 : decode prog_5_method_11_code 10 = .ok (.iload_n 2, 1) := by decide +kernel
theorem dd_Office_costOf_11 : decode prog_5_method_11_code 11 = .ok (.iload_n 3, 1) := by decide +kernel
theorem dd_Office_costOf_12 : decode prog_5_method_11_code 12 = .ok (.invokevirtual 101, 3) := by decide +kernel
theorem dd_Office_costOf_15 : decode prog_5_method_11_code 15 = .ok (.ireturn, 1) := by decide +kernel
def jx_Office_costOf (p0 : Option Nat) (p1 : Int32) (p2 : Int32) (p3 : Int32) : sf_M (Int32) :=
  sf_bnd (sf_gI 4 6 p0) fun x1 =>
  sf_bnd (sf_rc 4 p0 (jx_Office_lawOf p0 x1)) fun x2 =>
  sf_bnd (sf_rc 4 p0 (jx_Office_costBy p0 x2 p1 p2 p3)) fun x3 =>
  sf_ret x3
set_option maxRecDepth 20000 in
set_option maxHeartbeats 4000000 in
theorem ok_Office_costOf (p0 : Option Nat) (p1 : Int32) (p2 : Int32) (p3 : Int32) : sf_Ok ({ cls := "SplitFares$Office", name := "costOf", desc := "(III)I" } : Jvm.MethodName) prog_5_method_11_code 4 (some .int) 3 [sf_rv p0, .int p1, .int p2, .int p3] (jx_Office_costOf p0 p1 p2 p3) (fun r => some (.int r)) := by
  refine sf_Ok.of (env := [some (sf_rv p0), some (.int p1), some (.int p2), some (.int p3)]) (plainFor_of_name (by decide)) [false, false, false, false] (fun G => ⟨pk_r, pk_i, pk_i, pk_i, trivial⟩) (Nat.le_of_ble_eq_true rfl) rfl (fun X => ?_)
  unfold jx_Office_costOf
  refine fp_aload_n (i := 0) (r := p0) dd_Office_costOf_0 rfl rfl (fr_pc (pc' := 1) rfl ?_)
  refine fp_aload_n (i := 0) (r := p0) dd_Office_costOf_1 rfl rfl (fr_pc (pc' := 2) rfl ?_)
  refine fp_aload_n (i := 0) (r := p0) dd_Office_costOf_2 rfl rfl (fr_pc (pc' := 3) rfl ?_)
  refine fr_gI cl_4 6 (by decide) rfl sw_101 dd_Office_costOf_3 (fun x1 => fr_pc (pc' := 6) rfl ?_)
  refine fr_callV (stk := [sf_rv p0]) (As := [.int x1]) cl_4 (ok_Office_lawOf p0 x1) mt_Office_lawOf rfl rfl sw_407 sw_408 sw_409 (by decide) (Nat.le_of_ble_eq_true rfl) dd_Office_costOf_6 (fun x2 => fr_to (pc' := 9) (env' := [some (sf_rv p0), some (.int p1), some (.int p2), some (.int p3)]) (stk' := [sf_rv x2, sf_rv p0]) rfl rfl rfl ?_)
  refine fp_iload_n (i := 1) (x := p1) dd_Office_costOf_9 rfl rfl (fr_pc (pc' := 10) rfl ?_)
  refine fp_iload_n (i := 2) (x := p2) dd_Office_costOf_10 rfl rfl (fr_pc (pc' := 11) rfl ?_)
  refine fp_iload_n (i := 3) (x := p3) dd_Office_costOf_11 rfl rfl (fr_pc (pc' := 12) rfl ?_)
  refine fr_callV (stk := []) (As := [sf_rv x2, .int p1, .int p2, .int p3]) cl_4 (ok_Office_costBy p0 x2 p1 p2 p3) mt_Office_costBy rfl rfl sw_411 sw_412 sw_413 (by decide) (Nat.le_of_ble_eq_true rfl) dd_Office_costOf_12 (fun x3 => fr_to (pc' := 15) (env' := [some (sf_rv p0), some (.int p1), some (.int p2), some (.int p3)]) (stk' := [.int x3]) rfl rfl rfl ?_)
  exact fr_iret (v := x3) rfl rfl dd_Office_costOf_15
theorem mt_Office_bars : sf_Mt ({ cls := "SplitFares$Office", name := "bars", desc := "(IIII)Z" } : Jvm.MethodName) prog_5_method_13_code 7 (some .boolean) 4 := ⟨sw_466, sw_3, ⟨by decide, by decide, by decide +kernel⟩, by decide⟩
theorem dd_Office_bars_0 : decode prog_5_method_13_code 0 = .ok (.aload_n 0, 1) := by decide +kernel
theorem dd_Office_bars_1 : decode prog_5_method_13_code 1 = .ok (.aload_n 0, 1) := by decide +kernel
theorem dd_Office_bars_2 : decode prog_5_method_13_code 2 = .ok (.getfield 35, 3) := by decide +kernel
theorem dd_Office_bars_5 : decode prog_5_method_13_code 5 = .ok (.invokevirtual 97, 3) := by decide +kernel
theorem dd_Office_bars_8 : decode prog_5_method_13_code 8 = .ok (.astore 5, 2) := by decide +kernel
theorem dd_Office_bars_10 : decode prog_5_method_13_code 10 = .ok (.aload 5, 2) := by decide +kernel
theorem dd_Office_bars_12 : decode prog_5_method_13_code 12 = .ok (.ifnull 11, 3) := by decide +kernel
theorem dd_Office_bars_15 : decode prog_5_method_13_code 15 = .ok (.aload_n 0, 1) := by decide +kernel
theorem dd_Office_bars_16 : decode prog_5_method_13_code 16 = .ok (.iload_n 1, 1) := by decide +kernel
theorem dd_Office_bars_17 : decode prog_5_method_13_code 17 = .ok (.invokevirtual 82, 3) := by decide +kernel
theorem dd_Office_bars_20 : decode prog_5_method_13_code 20 = .ok (.ifCond .ne 5, 3) := by decide +kernel
theorem dd_Office_bars_25 : decode prog_5_method_13_code 25 = .ok (.aload_n 0, 1) := by decide +kernel
theorem dd_Office_bars_26 : decode prog_5_method_13_code 26 = .ok (.iload_n 2, 1) := by decide +kernel
theorem dd_Office_bars_27 : decode prog_5_method_13_code 27 = .ok (.iload_n 3, 1) := by decide +kernel
theorem dd_Office_bars_28 : decode prog_5_method_13_code 28 = .ok (.iload 4, 2) := by decide +kernel
theorem dd_Office_bars_30 : decode prog_5_method_13_code 30 = .ok (.aload_n 0, 1) := by decide +kernel
theorem dd_Office_bars_31 : decode prog_5_method_13_code 31 = .ok (.getfield 29, 3) := by decide +kernel
theorem dd_Office_bars_34 : decode prog_5_method_13_code 34 = .ok (.iload_n 1, 1) := by decide +kernel
theorem dd_Office_bars_35 : decode prog_5_method_13_code 35 = .ok (.iaload, 1) := by decide +kernel
theorem dd_Office_bars_36 : decode prog_5_method_13_code 36 = .ok (.invokevirtual 110, 3) := by decide +kernel
theorem dd_Office_bars_39 : decode prog_5_method_13_code 39 = .ok (.iconst 0, 1) := by decide +kernel
theorem dd_Office_bars_40 : decode prog_5_method_13_code 40 = .ok (.istore 6, 2) := by decide +kernel
theorem dd_Office_bars_42 : decode prog_5_method_13_code 42 = .ok (.iload 6, 2) := by decide +kernel
theorem dd_Office_bars_44 : decode prog_5_method_13_code 44 = .ok (.aload 5, 2) := by decide +kernel
theorem dd_Office_bars_46 : decode prog_5_method_13_code 46 = .ok (.getfield 114, 3) := by decide +kernel
theorem dd_Office_bars_49 : decode prog_5_method_13_code 49 = .ok (.if_icmp .ge 39, 3) := by decide +kernel
theorem dd_Office_bars_52 : decode prog_5_method_13_code 52 = .ok (.aload 5, 2) := by decide +kernel
theorem dd_Office_bars_54 : decode prog_5_method_13_code 54 = .ok (.iload 6, 2) := by decide +kernel
theorem dd_Office_bars_56 : decode prog_5_method_13_code 56 = .ok (.iconst 0, 1) := by decide +kernel
theorem dd_Office_bars_57 : decode prog_5_method_13_code 57 = .ok (.invokevirtual 117, 3) := by decide +kernel
theorem dd_Office_bars_60 : decode prog_5_method_13_code 60 = .ok (.iconst 1, 1) := by decide +kernel
theorem dd_Office_bars_61 : decode prog_5_method_13_code 61 = .ok (.if_icmp .ne 21, 3) := by decide +kernel
theorem dd_Office_bars_64 : decode prog_5_method_13_code 64 = .ok (.aload_n 0, 1) := by decide +kernel
theorem dd_Office_bars_65 : decode prog_5_method_13_code 65 = .ok (.getfield 62, 3) := by decide +kernel
theorem dd_Office_bars_68 : decode prog_5_method_13_code 68 = .ok (.aload 5, 2) := by decide +kernel
theorem dd_Office_bars_70 : decode prog_5_method_13_code 70 = .ok (.iload 6, 2) := by decide +kernel
theorem dd_Office_bars_72 : decode prog_5_method_13_code 72 = .ok (.iconst 4, 1) := by decide +kernel
theorem dd_Office_bars_73 : decode prog_5_method_13_code 73 = .ok (.invokevirtual 121, 3) := by decide +kernel
theorem dd_Office_bars_76 : decode prog_5_method_13_code 76 = .ok (.iconst 1, 1) := by decide +kernel
theorem dd_Office_bars_77 : decode prog_5_method_13_code 77 = .ok (.if_icmp .ne 5, 3) := by decide +kernel
theorem dd_Office_bars_80 : decode prog_5_method_13_code 80 = .ok (.iconst 1, 1) := by decide +kernel
theorem dd_Office_bars_81 : decode prog_5_method_13_code 81 = .ok (.ireturn, 1) := by decide +kernel
theorem dd_Office_bars_82 : decode prog_5_method_13_code 82 = .ok (.iinc 6 1, 3) := by decide +kernel
theorem dd_Office_bars_85 : decode prog_5_method_13_code 85 = .ok (.goto (-43), 3) := by decide +kernel
theorem dd_Office_bars_88 : decode prog_5_method_13_code 88 = .ok (.iconst 0, 1) := by decide +kernel
theorem dd_Office_bars_89 : decode prog_5_method_13_code 89 = .ok (.ireturn, 1) := by decide +kernel
theorem dd_Office_bars_23 : decode prog_5_method_13_code 23 = .ok (.iconst 0, 1) := by decide +kernel
theorem dd_Office_bars_24 : decode prog_5_method_13_code 24 = .ok (.ireturn, 1) := by decide +kernel
def jx_Office_bars (p0 : Option Nat) (p1 : Int32) (p2 : Int32) (p3 : Int32) (p4 : Int32) : sf_M (Int32) :=
  sf_bnd (sf_gI 4 6 p0) fun x1 =>
  sf_bnd (sf_rc 4 p0 (jx_Office_lawOf p0 x1)) fun x2 =>
  if x2 = none then (
  sf_ret (0 : Int32)
  ) else (
  sf_bnd (sf_rc 4 p0 (jx_Office_hasTrain p0 p1)) fun x4 =>
  if x4 = 0 then (
  sf_ret (0 : Int32)
  ) else (
  sf_bnd (sf_gR 4 4 p0) fun x6 =>
  sf_bnd (sf_aI 0 x6 p1) fun x7 =>
  sf_bnd (sf_rc 4 p0 (jx_Office_tellWords p0 p2 p3 p4 x7)) fun _ =>
  sf_or (α := Int32) (β := (Unit)) (sf_loop (β := (Int32)) (γ := (Int32 ⊕ (Unit))) (fun b9 =>
  sf_bnd (sf_gI 6 4 x2) fun x10 =>
  if x10 ≤ b9 then (
  sf_ret (.inr (.inr ()))
  ) else (
  sf_bnd (sf_rc 6 x2 (jx_Program_noted x2 b9 (0 : Int32))) fun x12 =>
  if x12 = (1 : Int32) then (
  sf_bnd (sf_gR 4 13 p0) fun x14 =>
  sf_bnd (sf_rc 3 x14 (jx_Machine_evaluate x14 x2 b9 (4 : Int32))) fun x15 =>
  if x15 = (1 : Int32) then (
  sf_ret (.inr (.inl (1 : Int32)))
  ) else (
  sf_bnd (sf_ret (b9 + (1 : Int32))) fun y17 =>
  sf_ret (.inl y17)
  )
  ) else (
  sf_bnd (sf_ret (b9 + (1 : Int32))) fun y18 =>
  sf_ret (.inl y18)
  )
  )
  ) sf_fuel (0 : Int32)) (fun e19 =>
  sf_ret (0 : Int32)
  )
  )
  )
set_option maxRecDepth 20000 in
set_option maxHeartbeats 4000000 in
theorem ok_Office_bars (p0 : Option Nat) (p1 : Int32) (p2 : Int32) (p3 : Int32) (p4 : Int32) : sf_Ok ({ cls := "SplitFares$Office", name := "bars", desc := "(IIII)Z" } : Jvm.MethodName) prog_5_method_13_code 7 (some .boolean) 2 [sf_rv p0, .int p1, .int p2, .int p3, .int p4] (jx_Office_bars p0 p1 p2 p3 p4) (fun r => some (.int r)) := by
  refine sf_Ok.of (env := [some (sf_rv p0), some (.int p1), some (.int p2), some (.int p3), some (.int p4), none, none]) (plainFor_of_name (by decide)) [false, false, false, false, false] (fun G => ⟨pk_r, pk_i, pk_i, pk_i, pk_i, trivial⟩) (Nat.le_of_ble_eq_true rfl) rfl (fun X => ?_)
  unfold jx_Office_bars
  refine fp_aload_n (i := 0) (r := p0) dd_Office_bars_0 rfl rfl (fr_pc (pc' := 1) rfl ?_)
  refine fp_aload_n (i := 0) (r := p0) dd_Office_bars_1 rfl rfl (fr_pc (pc' := 2) rfl ?_)
  refine fr_gI cl_4 6 (by decide) rfl sw_101 dd_Office_bars_2 (fun x1 => fr_pc (pc' := 5) rfl ?_)
  refine fr_callV (stk := []) (As := [.int x1]) cl_4 (ok_Office_lawOf p0 x1) mt_Office_lawOf rfl rfl sw_407 sw_408 sw_409 (by decide) (Nat.le_of_ble_eq_true rfl) dd_Office_bars_5 (fun x2 => fr_to (pc' := 8) (env' := [some (sf_rv p0), some (.int p1), some (.int p2), some (.int p3), some (.int p4), none, none]) (stk' := [sf_rv x2]) rfl rfl rfl ?_)
  refine fp_astore (i := 5) dd_Office_bars_8 (Nat.le_of_ble_eq_true rfl) (fun _ => c1_i rfl) (fr_to (pc' := 10) (env' := [some (sf_rv p0), some (.int p1), some (.int p2), some (.int p3), some (.int p4), some (sf_rv x2), none]) (stk' := []) rfl rfl rfl ?_)
  refine fp_aload (i := 5) (r := x2) dd_Office_bars_10 rfl (fr_pc (pc' := 12) rfl ?_)
  refine fr_ifnull (tgt := 23) dd_Office_bars_12 rfl (fun _ => ?_) (fun _ => ?_)
  · refine fp_iconst (v := (0 : Int32)) dd_Office_bars_23 (by decide) (fr_pc (pc' := 24) rfl ?_)
    exact fr_zret0 (v := (0 : Int32)) (Or.inl rfl) rfl rfl dd_Office_bars_24
  · refine fr_pc (pc' := 15) rfl ?_
    refine fp_aload_n (i := 0) (r := p0) dd_Office_bars_15 rfl rfl (fr_pc (pc' := 16) rfl ?_)
    refine fp_iload_n (i := 1) (x := p1) dd_Office_bars_16 rfl rfl (fr_pc (pc' := 17) rfl ?_)
    refine fr_callV (stk := []) (As := [.int p1]) cl_4 (ok_Office_hasTrain p0 p1) mt_Office_hasTrain rfl rfl sw_467 sw_387 sw_388 (by decide) (Nat.le_of_ble_eq_true rfl) dd_Office_bars_17 (fun x4 => fr_to (pc' := 20) (env' := [some (sf_rv p0), some (.int p1), some (.int p2), some (.int p3), some (.int p4), some (sf_rv x2), none]) (stk' := [.int x4]) rfl rfl rfl ?_)
    refine fr_if_ne (tgt := 25) dd_Office_bars_20 rfl (fun _ => ?_) (fun _ => ?_)
    · refine fr_pc (pc' := 23) rfl ?_
      refine fp_iconst (v := (0 : Int32)) dd_Office_bars_23 (by decide) (fr_pc (pc' := 24) rfl ?_)
      exact fr_zret0 (v := (0 : Int32)) (Or.inl rfl) rfl rfl dd_Office_bars_24
    · refine fp_aload_n (i := 0) (r := p0) dd_Office_bars_25 rfl rfl (fr_pc (pc' := 26) rfl ?_)
      refine fp_iload_n (i := 2) (x := p2) dd_Office_bars_26 rfl rfl (fr_pc (pc' := 27) rfl ?_)
      refine fp_iload_n (i := 3) (x := p3) dd_Office_bars_27 rfl rfl (fr_pc (pc' := 28) rfl ?_)
      refine fp_iload (i := 4) (x := p4) dd_Office_bars_28 rfl (fr_pc (pc' := 30) rfl ?_)
      refine fp_aload_n (i := 0) (r := p0) dd_Office_bars_30 rfl rfl (fr_pc (pc' := 31) rfl ?_)
      refine fr_gR cl_4 4 (by decide) rfl sw_97 dd_Office_bars_31 (fun x6 => fr_pc (pc' := 34) rfl ?_)
      refine fp_iload_n (i := 1) (x := p1) dd_Office_bars_34 rfl rfl (fr_pc (pc' := 35) rfl ?_)
      refine fr_aI0 dd_Office_bars_35 (fun x7 => fr_pc (pc' := 36) rfl ?_)
      refine fr_callV (stk := []) (As := [.int p2, .int p3, .int p4, .int x7]) cl_4 (ok_Office_tellWords p0 p2 p3 p4 x7) mt_Office_tellWords rfl rfl sw_418 sw_420 sp_3 (by decide) (Nat.le_of_ble_eq_true rfl) dd_Office_bars_36 (fun u8 => fr_to (pc' := 39) (env' := [some (sf_rv p0), some (.int p1), some (.int p2), some (.int p3), some (.int p4), some (sf_rv x2), none]) (stk' := []) rfl rfl rfl ?_)
      refine fp_iconst (v := (0 : Int32)) dd_Office_bars_39 (by decide) (fr_pc (pc' := 40) rfl ?_)
      refine fp_istore (i := 6) dd_Office_bars_40 (Nat.le_of_ble_eq_true rfl) (fun _ => c1_r rfl) (fr_to (pc' := 42) (env' := [some (sf_rv p0), some (.int p1), some (.int p2), some (.int p3), some (.int p4), some (sf_rv x2), some (.int (0 : Int32))]) (stk' := []) rfl rfl rfl ?_)
      refine fr_to (pc' := 42) (env' := [some (sf_rv p0), some (.int p1), some (.int p2), some (.int p3), some (.int p4), some (sf_rv x2), some (.int (0 : Int32))]) (stk' := []) rfl rfl rfl ?_
      refine fr_or (l1 := (fun (e19 : (Unit)) => sf_p 88 [some (sf_rv p0), some (.int p1), some (.int p2), some (.int p3), some (.int p4), some (sf_rv x2), none] [])) (fr_loop (Lb := (fun (b9 : (Int32)) => sf_p 42 [some (sf_rv p0), some (.int p1), some (.int p2), some (.int p3), some (.int p4), some (sf_rv x2), some (.int b9)] [])) (fun b9 => ?_) _ _) (fun e19 => ?_)
      · refine fp_iload (i := 6) (x := b9) dd_Office_bars_42 rfl (fr_pc (pc' := 44) rfl ?_)
        refine fp_aload (i := 5) (r := x2) dd_Office_bars_44 rfl (fr_pc (pc' := 46) rfl ?_)
        refine fr_gI cl_6 4 (by decide) rfl sw_252 dd_Office_bars_46 (fun x10 => fr_pc (pc' := 49) rfl ?_)
        refine fr_icmp_ge (tgt := 88) dd_Office_bars_49 rfl (fun _ => ?_) (fun _ => ?_)
        · refine fr_wk [true, true, true, true, true, true, false] ?_
          exact fr_ret rfl
        · refine fr_pc (pc' := 52) rfl ?_
          refine fp_aload (i := 5) (r := x2) dd_Office_bars_52 rfl (fr_pc (pc' := 54) rfl ?_)
          refine fp_iload (i := 6) (x := b9) dd_Office_bars_54 rfl (fr_pc (pc' := 56) rfl ?_)
          refine fp_iconst (v := (0 : Int32)) dd_Office_bars_56 (by decide) (fr_pc (pc' := 57) rfl ?_)
          refine fr_callV (stk := []) (As := [.int b9, .int (0 : Int32)]) cl_6 (ok_Program_noted x2 b9 (0 : Int32)) mt_Program_noted rfl rfl sw_422 sw_423 sw_424 (by decide) (Nat.le_of_ble_eq_true rfl) dd_Office_bars_57 (fun x12 => fr_to (pc' := 60) (env' := [some (sf_rv p0), some (.int p1), some (.int p2), some (.int p3), some (.int p4), some (sf_rv x2), some (.int b9)]) (stk' := [.int x12]) rfl rfl rfl ?_)
          refine fp_iconst (v := (1 : Int32)) dd_Office_bars_60 (by decide) (fr_pc (pc' := 61) rfl ?_)
          refine fr_icmp_ne (tgt := 82) dd_Office_bars_61 rfl (fun _ => ?_) (fun _ => ?_)
          · refine fr_pc (pc' := 64) rfl ?_
            refine fp_aload_n (i := 0) (r := p0) dd_Office_bars_64 rfl rfl (fr_pc (pc' := 65) rfl ?_)
            refine fr_gR cl_4 13 (by decide) rfl sw_112 dd_Office_bars_65 (fun x14 => fr_pc (pc' := 68) rfl ?_)
            refine fp_aload (i := 5) (r := x2) dd_Office_bars_68 rfl (fr_pc (pc' := 70) rfl ?_)
            refine fp_iload (i := 6) (x := b9) dd_Office_bars_70 rfl (fr_pc (pc' := 72) rfl ?_)
            refine fp_iconst (v := (4 : Int32)) dd_Office_bars_72 (by decide) (fr_pc (pc' := 73) rfl ?_)
            refine fr_callV (stk := []) (As := [sf_rv x2, .int b9, .int (4 : Int32)]) cl_3 (ok_Machine_evaluate x14 x2 b9 (4 : Int32)) mt_Machine_evaluate rfl rfl sw_426 sw_427 sw_428 (by decide) (Nat.le_of_ble_eq_true rfl) dd_Office_bars_73 (fun x15 => fr_to (pc' := 76) (env' := [some (sf_rv p0), some (.int p1), some (.int p2), some (.int p3), some (.int p4), some (sf_rv x2), some (.int b9)]) (stk' := [.int x15]) rfl rfl rfl ?_)
            refine fp_iconst (v := (1 : Int32)) dd_Office_bars_76 (by decide) (fr_pc (pc' := 77) rfl ?_)
            refine fr_icmp_ne (tgt := 82) dd_Office_bars_77 rfl (fun _ => ?_) (fun _ => ?_)
            · refine fr_pc (pc' := 80) rfl ?_
              refine fp_iconst (v := (1 : Int32)) dd_Office_bars_80 (by decide) (fr_pc (pc' := 81) rfl ?_)
              exact fr_zret0 (v := (1 : Int32)) (Or.inr rfl) rfl rfl dd_Office_bars_81
            · refine fr_niinc (i := 6) (x := b9) (w := (1 : Int32)) dd_Office_bars_82 rfl (by decide) (Nat.le_of_ble_eq_true rfl) (fun _ => c1_r rfl) (fun y17 => fr_to (pc' := 85) (env' := [some (sf_rv p0), some (.int p1), some (.int p2), some (.int p3), some (.int p4), some (sf_rv x2), some (.int y17)]) (stk' := []) rfl rfl rfl ?_)
              refine fp_goto (tgt := 42) dd_Office_bars_85 rfl ?_
              exact fr_ret rfl
          · refine fr_niinc (i := 6) (x := b9) (w := (1 : Int32)) dd_Office_bars_82 rfl (by decide) (Nat.le_of_ble_eq_true rfl) (fun _ => c1_r rfl) (fun y18 => fr_to (pc' := 85) (env' := [some (sf_rv p0), some (.int p1), some (.int p2), some (.int p3), some (.int p4), some (sf_rv x2), some (.int y18)]) (stk' := []) rfl rfl rfl ?_)
            refine fp_goto (tgt := 42) dd_Office_bars_85 rfl ?_
            exact fr_ret rfl
      · refine fp_iconst (v := (0 : Int32)) dd_Office_bars_88 (by decide) (fr_pc (pc' := 89) rfl ?_)
        exact fr_zret0 (v := (0 : Int32)) (Or.inl rfl) rfl rfl dd_Office_bars_89
theorem mt_Office_term : sf_Mt ({ cls := "SplitFares$Office", name := "term", desc := "(I)I" } : Jvm.MethodName) prog_5_method_7_code 2 (some .int) 1 := ⟨sw_485, sw_3, ⟨by decide, by decide, by decide +kernel⟩, by decide⟩
theorem dd_Office_term_0 : decode prog_5_method_7_code 0 = .ok (.iload_n 1, 1) := by decide +kernel
theorem dd_Office_term_1 : decode prog_5_method_7_code 1 = .ok (.ifCond .ne 11, 3) := by decide +kernel
theorem dd_Office_term_4 : decode prog_5_method_7_code 4 = .ok (.aload_n 0, 1) := by decide +kernel
theorem dd_Office_term_5 : decode prog_5_method_7_code 5 = .ok (.getfield 12, 3) := by decide +kernel
theorem dd_Office_term_8 : decode prog_5_method_7_code 8 = .ok (.getfield 94, 3) := by decide +kernel
theorem dd_Office_term_11 : decode prog_5_method_7_code 11 = .ok (.ireturn, 1) := by decide +kernel
theorem dd_Office_term_12 : decode prog_5_method_7_code 12 = .ok (.iload_n 1, 1) := by decide +kernel
theorem dd_Office_term_13 : decode prog_5_method_7_code 13 = .ok (.iconst 1, 1) := by decide +kernel
theorem dd_Office_term_14 : decode prog_5_method_7_code 14 = .ok (.if_icmp .ne 10, 3) := by decide +kernel
theorem dd_Office_term_17 : decode prog_5_method_7_code 17 = .ok (.aload_n 0, 1) := by decide +kernel
theorem dd_Office_term_18 : decode prog_5_method_7_code 18 = .ok (.getfield 53, 3) := by decide +kernel
theorem dd_Office_term_21 : decode prog_5_method_7_code 21 = .ok (.goto 7, 3) := by decide +kernel
theorem dd_Office_term_24 : decode prog_5_method_7_code 24 = .ok (.aload_n 0, 1) := by decide +kernel
theorem dd_Office_term_25 : decode prog_5_method_7_code 25 = .ok (.getfield 56, 3) := by decide +kernel
theorem dd_Office_term_28 : decode prog_5_method_7_code 28 = .ok (.ireturn, 1) := by decide +kernel
def jx_Office_term (p0 : Option Nat) (p1 : Int32) : sf_M (Int32) :=
  if p1 = 0 then (
  sf_bnd (sf_gR 4 0 p0) fun x2 =>
  sf_bnd (sf_gI 5 3 x2) fun x3 =>
  sf_ret x3
  ) else (
  if p1 = (1 : Int32) then (
  sf_bnd (sf_gI 4 11 p0) fun x5 =>
  sf_ret x5
  ) else (
  sf_bnd (sf_gI 4 12 p0) fun x6 =>
  sf_ret x6
  )
  )
set_option maxRecDepth 20000 in
set_option maxHeartbeats 4000000 in
theorem ok_Office_term (p0 : Option Nat) (p1 : Int32) : sf_Ok ({ cls := "SplitFares$Office", name := "term", desc := "(I)I" } : Jvm.MethodName) prog_5_method_7_code 2 (some .int) 0 [sf_rv p0, .int p1] (jx_Office_term p0 p1) (fun r => some (.int r)) := by
  refine sf_Ok.of (env := [some (sf_rv p0), some (.int p1)]) (plainFor_of_name (by decide)) [false, false] (fun G => ⟨pk_r, pk_i, trivial⟩) (Nat.le_of_ble_eq_true rfl) rfl (fun X => ?_)
  unfold jx_Office_term
  refine fp_iload_n (i := 1) (x := p1) dd_Office_term_0 rfl rfl (fr_pc (pc' := 1) rfl ?_)
  refine fr_if_ne (tgt := 12) dd_Office_term_1 rfl (fun _ => ?_) (fun _ => ?_)
  · refine fr_pc (pc' := 4) rfl ?_
    refine fp_aload_n (i := 0) (r := p0) dd_Office_term_4 rfl rfl (fr_pc (pc' := 5) rfl ?_)
    refine fr_gR cl_4 0 (by decide) rfl sw_85 dd_Office_term_5 (fun x2 => fr_pc (pc' := 8) rfl ?_)
    refine fr_gI cl_5 3 (by decide) rfl sw_56 dd_Office_term_8 (fun x3 => fr_pc (pc' := 11) rfl ?_)
    exact fr_iret (v := x3) rfl rfl dd_Office_term_11
  · refine fp_iload_n (i := 1) (x := p1) dd_Office_term_12 rfl rfl (fr_pc (pc' := 13) rfl ?_)
    refine fp_iconst (v := (1 : Int32)) dd_Office_term_13 (by decide) (fr_pc (pc' := 14) rfl ?_)
    refine fr_icmp_ne (tgt := 24) dd_Office_term_14 rfl (fun _ => ?_) (fun _ => ?_)
    · refine fr_pc (pc' := 17) rfl ?_
      refine fp_aload_n (i := 0) (r := p0) dd_Office_term_17 rfl rfl (fr_pc (pc' := 18) rfl ?_)
      refine fr_gI cl_4 11 (by decide) rfl sw_110 dd_Office_term_18 (fun x5 => fr_pc (pc' := 21) rfl ?_)
      refine fp_goto (tgt := 28) dd_Office_term_21 rfl ?_
      exact fr_iret (v := x5) rfl rfl dd_Office_term_28
    · refine fp_aload_n (i := 0) (r := p0) dd_Office_term_24 rfl rfl (fr_pc (pc' := 25) rfl ?_)
      refine fr_gI cl_4 12 (by decide) rfl sw_111 dd_Office_term_25 (fun x6 => fr_pc (pc' := 28) rfl ?_)
      exact fr_iret (v := x6) rfl rfl dd_Office_term_28
theorem mt_Office_setTerm : sf_Mt ({ cls := "SplitFares$Office", name := "setTerm", desc := "(II)V" } : Jvm.MethodName) prog_5_method_8_code 3 none 2 := ⟨sw_489, sw_3, ⟨by decide, by decide, by decide +kernel⟩, by decide⟩
theorem dd_Office_setTerm_0 : decode prog_5_method_8_code 0 = .ok (.iload_n 1, 1) := by decide +kernel
theorem dd_Office_setTerm_1 : decode prog_5_method_8_code 1 = .ok (.ifCond .ne 14, 3) := by decide +kernel
theorem dd_Office_setTerm_4 : decode prog_5_method_8_code 4 = .ok (.aload_n 0, 1) := by decide +kernel
theorem dd_Office_setTerm_5 : decode prog_5_method_8_code 5 = .ok (.getfield 12, 3) := by decide +kernel
theorem dd_Office_setTerm_8 : decode prog_5_method_8_code 8 = .ok (.iload_n 2, 1) := by decide +kernel
theorem dd_Office_setTerm_9 : decode prog_5_method_8_code 9 = .ok (.putfield 94, 3) := by decide +kernel
theorem dd_Office_setTerm_12 : decode prog_5_method_8_code 12 = .ok (.goto 21, 3) := by decide +kernel
theorem dd_Office_setTerm_15 : decode prog_5_method_8_code 15 = .ok (.iload_n 1, 1) := by decide +kernel
theorem dd_Office_setTerm_16 : decode prog_5_method_8_code 16 = .ok (.iconst 1, 1) := by decide +kernel
theorem dd_Office_setTerm_17 : decode prog_5_method_8_code 17 = .ok (.if_icmp .ne 11, 3) := by decide +kernel
theorem dd_Office_setTerm_20 : decode prog_5_method_8_code 20 = .ok (.aload_n 0, 1) := by decide +kernel
theorem dd_Office_setTerm_21 : decode prog_5_method_8_code 21 = .ok (.iload_n 2, 1) := by decide +kernel
theorem dd_Office_setTerm_22 : decode prog_5_method_8_code 22 = .ok (.putfield 53, 3) := by decide +kernel
theorem dd_Office_setTerm_25 : decode prog_5_method_8_code 25 = .ok (.goto 8, 3) := by decide +kernel
theorem dd_Office_setTerm_28 : decode prog_5_method_8_code 28 = .ok (.aload_n 0, 1) := by decide +kernel
theorem dd_Office_setTerm_29 : decode prog_5_method_8_code 29 = .ok (.iload_n 2, 1) := by decide +kernel
theorem dd_Office_setTerm_30 : decode prog_5_method_8_code 30 = .ok (.putfield 56, 3) := by decide +kernel
theorem dd_Office_setTerm_33 : decode prog_5_method_8_code 33 = .ok (.return_, 1) := by decide +kernel
def jx_Office_setTerm (p0 : Option Nat) (p1 : Int32) (p2 : Int32) : sf_M (Unit) :=
  if p1 = 0 then (
  sf_bnd (sf_gR 4 0 p0) fun x2 =>
  sf_bnd (sf_pI 5 3 x2 p2) fun _ =>
  sf_ret ()
  ) else (
  if p1 = (1 : Int32) then (
  sf_bnd (sf_pI 4 11 p0 p2) fun _ =>
  sf_ret ()
  ) else (
  sf_bnd (sf_pI 4 12 p0 p2) fun _ =>
  sf_ret ()
  )
  )
set_option maxRecDepth 20000 in
set_option maxHeartbeats 4000000 in
theorem ok_Office_setTerm (p0 : Option Nat) (p1 : Int32) (p2 : Int32) : sf_Ok ({ cls := "SplitFares$Office", name := "setTerm", desc := "(II)V" } : Jvm.MethodName) prog_5_method_8_code 3 none 0 [sf_rv p0, .int p1, .int p2] (jx_Office_setTerm p0 p1 p2) (fun _ => none) := by
  refine sf_Ok.of (env := [some (sf_rv p0), some (.int p1), some (.int p2)]) (plainFor_of_name (by decide)) [false, false, false] (fun G => ⟨pk_r, pk_i, pk_i, trivial⟩) (Nat.le_of_ble_eq_true rfl) rfl (fun X => ?_)
  unfold jx_Office_setTerm
  refine fp_iload_n (i := 1) (x := p1) dd_Office_setTerm_0 rfl rfl (fr_pc (pc' := 1) rfl ?_)
  refine fr_if_ne (tgt := 15) dd_Office_setTerm_1 rfl (fun _ => ?_) (fun _ => ?_)
  · refine fr_pc (pc' := 4) rfl ?_
    refine fp_aload_n (i := 0) (r := p0) dd_Office_setTerm_4 rfl rfl (fr_pc (pc' := 5) rfl ?_)
    refine fr_gR cl_4 0 (by decide) rfl sw_85 dd_Office_setTerm_5 (fun x2 => fr_pc (pc' := 8) rfl ?_)
    refine fp_iload_n (i := 2) (x := p2) dd_Office_setTerm_8 rfl rfl (fr_pc (pc' := 9) rfl ?_)
    refine fr_pI cl_5 3 (by decide) rfl sw_56 rfl ⟨rfl, rfl⟩ dd_Office_setTerm_9 (fr_pc (pc' := 12) rfl ?_)
    refine fp_goto (tgt := 33) dd_Office_setTerm_12 rfl ?_
    exact fr_vret rfl rfl dd_Office_setTerm_33
  · refine fp_iload_n (i := 1) (x := p1) dd_Office_setTerm_15 rfl rfl (fr_pc (pc' := 16) rfl ?_)
    refine fp_iconst (v := (1 : Int32)) dd_Office_setTerm_16 (by decide) (fr_pc (pc' := 17) rfl ?_)
    refine fr_icmp_ne (tgt := 28) dd_Office_setTerm_17 rfl (fun _ => ?_) (fun _ => ?_)
    · refine fr_pc (pc' := 20) rfl ?_
      refine fp_aload_n (i := 0) (r := p0) dd_Office_setTerm_20 rfl rfl (fr_pc (pc' := 21) rfl ?_)
      refine fp_iload_n (i := 2) (x := p2) dd_Office_setTerm_21 rfl rfl (fr_pc (pc' := 22) rfl ?_)
      refine fr_pI cl_4 11 (by decide) rfl sw_110 rfl ⟨rfl, rfl⟩ dd_Office_setTerm_22 (fr_pc (pc' := 25) rfl ?_)
      refine fp_goto (tgt := 33) dd_Office_setTerm_25 rfl ?_
      exact fr_vret rfl rfl dd_Office_setTerm_33
    · refine fp_aload_n (i := 0) (r := p0) dd_Office_setTerm_28 rfl rfl (fr_pc (pc' := 29) rfl ?_)
      refine fp_iload_n (i := 2) (x := p2) dd_Office_setTerm_29 rfl rfl (fr_pc (pc' := 30) rfl ?_)
      refine fr_pI cl_4 12 (by decide) rfl sw_111 rfl ⟨rfl, rfl⟩ dd_Office_setTerm_30 (fr_pc (pc' := 33) rfl ?_)
      exact fr_vret rfl rfl dd_Office_setTerm_33
theorem mt_Office_addLaw : sf_Mt ({ cls := "SplitFares$Office", name := "addLaw", desc := "(LSplitFares$Program;)I" } : Jvm.MethodName) prog_5_method_10_code 2 (some .int) 1 := ⟨sw_736, sw_3, ⟨by decide, by decide, by decide +kernel⟩, by decide⟩
theorem dd_Office_addLaw_0 : decode prog_5_method_10_code 0 = .ok (.aload_n 0, 1) := by decide +kernel
theorem dd_Office_addLaw_1 : decode prog_5_method_10_code 1 = .ok (.getfield 32, 3) := by decide +kernel
theorem dd_Office_addLaw_4 : decode prog_5_method_10_code 4 = .ok (.bipush 6, 2) := by decide +kernel
theorem dd_Office_addLaw_6 : decode prog_5_method_10_code 6 = .ok (.if_icmp .lt 6, 3) := by decide +kernel
theorem dd_Office_addLaw_9 : decode prog_5_method_10_code 9 = .ok (.bipush (-5), 2) := by decide +kernel
theorem dd_Office_addLaw_11 : decode prog_5_method_10_code 11 = .ok (.ireturn, 1) := by decide +kernel
theorem dd_Office_addLaw_12 : decode prog_5_method_10_code 12 = .ok (.aload_n 0, 1) := by decide +kernel
theorem dd_Office_addLaw_13 : decode prog_5_method_10_code 13 = .ok (.getfield 40, 3) := by decide +kernel
theorem dd_Office_addLaw_16 : decode prog_5_method_10_code 16 = .ok (.aload_n 0, 1) := by decide +kernel
theorem dd_Office_addLaw_17 : decode prog_5_method_10_code 17 = .ok (.getfield 32, 3) := by decide +kernel
theorem dd_Office_addLaw_20 : decode prog_5_method_10_code 20 = .ok (.aload_n 1, 1) := by decide +kernel
theorem dd_Office_addLaw_21 : decode prog_5_method_10_code 21 = .ok (.aastore, 1) := by decide +kernel
theorem dd_Office_addLaw_22 : decode prog_5_method_10_code 22 = .ok (.aload_n 0, 1) := by decide +kernel
theorem dd_Office_addLaw_23 : decode prog_5_method_10_code 23 = .ok (.dup, 1) := by decide +kernel
theorem dd_Office_addLaw_24 : decode prog_5_method_10_code 24 = .ok (.getfield 32, 3) := by decide +kernel
theorem dd_Office_addLaw_27 : decode prog_5_method_10_code 27 = .ok (.iconst 1, 1) := by decide +kernel
theorem dd_Office_addLaw_28 : decode prog_5_method_10_code 28 = .ok (.iadd, 1) := by decide +kernel
theorem dd_Office_addLaw_29 : decode prog_5_method_10_code 29 = .ok (.putfield 32, 3) := by decide +kernel
theorem dd_Office_addLaw_32 : decode prog_5_method_10_code 32 = .ok (.aload_n 0, 1) := by decide +kernel
theorem dd_Office_addLaw_33 : decode prog_5_method_10_code 33 = .ok (.getfield 32, 3) := by decide +kernel
theorem dd_Office_addLaw_36 : decode prog_5_method_10_code 36 = .ok (.iconst 1, 1) := by decide +kernel
theorem dd_Office_addLaw_37 : decode prog_5_method_10_code 37 = .ok (.isub, 1) := by decide +kernel
theorem dd_Office_addLaw_38 : decode prog_5_method_10_code 38 = .ok (.ireturn, 1) := by decide +kernel
def jx_Office_addLaw (p0 : Option Nat) (p1 : Option Nat) : sf_M (Int32) :=
  sf_bnd (sf_gI 4 5 p0) fun x1 =>
  if x1 < (6 : Int32) then (
  sf_bnd (sf_gR 4 7 p0) fun x3 =>
  sf_bnd (sf_gI 4 5 p0) fun x4 =>
  sf_bnd (sf_sR 6 6 x3 x4 p1) fun _ =>
  sf_bnd (sf_gI 4 5 p0) fun x5 =>
  sf_bnd (sf_pI 4 5 p0 (x5 + (1 : Int32))) fun _ =>
  sf_bnd (sf_gI 4 5 p0) fun x6 =>
  sf_ret (x6 - (1 : Int32))
  ) else (
  sf_ret (-5 : Int32)
  )
set_option maxRecDepth 20000 in
set_option maxHeartbeats 4000000 in
theorem ok_Office_addLaw (p0 : Option Nat) (p1 : Option Nat) : sf_Ok ({ cls := "SplitFares$Office", name := "addLaw", desc := "(LSplitFares$Program;)I" } : Jvm.MethodName) prog_5_method_10_code 2 (some .int) 0 [sf_rv p0, sf_rv p1] (jx_Office_addLaw p0 p1) (fun r => some (.int r)) := by
  refine sf_Ok.of (env := [some (sf_rv p0), some (sf_rv p1)]) (plainFor_of_name (by decide)) [false, false] (fun G => ⟨pk_r, pk_r, trivial⟩) (Nat.le_of_ble_eq_true rfl) rfl (fun X => ?_)
  unfold jx_Office_addLaw
  refine fp_aload_n (i := 0) (r := p0) dd_Office_addLaw_0 rfl rfl (fr_pc (pc' := 1) rfl ?_)
  refine fr_gI cl_4 5 (by decide) rfl sw_99 dd_Office_addLaw_1 (fun x1 => fr_pc (pc' := 4) rfl ?_)
  refine fp_bipush (v := (6 : Int32)) dd_Office_addLaw_4 (by decide) (fr_pc (pc' := 6) rfl ?_)
  refine fr_icmp_lt (tgt := 12) dd_Office_addLaw_6 rfl (fun _ => ?_) (fun _ => ?_)
  · refine fp_aload_n (i := 0) (r := p0) dd_Office_addLaw_12 rfl rfl (fr_pc (pc' := 13) rfl ?_)
    refine fr_gR cl_4 7 (by decide) rfl sw_103 dd_Office_addLaw_13 (fun x3 => fr_pc (pc' := 16) rfl ?_)
    refine fp_aload_n (i := 0) (r := p0) dd_Office_addLaw_16 rfl rfl (fr_pc (pc' := 17) rfl ?_)
    refine fr_gI cl_4 5 (by decide) rfl sw_99 dd_Office_addLaw_17 (fun x4 => fr_pc (pc' := 20) rfl ?_)
    refine fp_aload_n (i := 1) (r := p1) dd_Office_addLaw_20 rfl rfl (fr_pc (pc' := 21) rfl ?_)
    refine fr_sR cl_6 (by decide) (by decide) ar_6 dd_Office_addLaw_21 (fr_pc (pc' := 22) rfl ?_)
    refine fp_aload_n (i := 0) (r := p0) dd_Office_addLaw_22 rfl rfl (fr_pc (pc' := 23) rfl ?_)
    refine fp_dup_r dd_Office_addLaw_23 (fr_pc (pc' := 24) rfl ?_)
    refine fr_gI cl_4 5 (by decide) rfl sw_99 dd_Office_addLaw_24 (fun x5 => fr_pc (pc' := 27) rfl ?_)
    refine fp_iconst (v := (1 : Int32)) dd_Office_addLaw_27 (by decide) (fr_pc (pc' := 28) rfl ?_)
    refine fp_iadd dd_Office_addLaw_28 (fr_pc (pc' := 29) rfl ?_)
    refine fr_pI cl_4 5 (by decide) rfl sw_99 rfl ⟨rfl, rfl⟩ dd_Office_addLaw_29 (fr_pc (pc' := 32) rfl ?_)
    refine fp_aload_n (i := 0) (r := p0) dd_Office_addLaw_32 rfl rfl (fr_pc (pc' := 33) rfl ?_)
    refine fr_gI cl_4 5 (by decide) rfl sw_99 dd_Office_addLaw_33 (fun x6 => fr_pc (pc' := 36) rfl ?_)
    refine fp_iconst (v := (1 : Int32)) dd_Office_addLaw_36 (by decide) (fr_pc (pc' := 37) rfl ?_)
    refine fp_isub dd_Office_addLaw_37 (fr_pc (pc' := 38) rfl ?_)
    exact fr_iret (v := (x6 - (1 : Int32))) rfl rfl dd_Office_addLaw_38
  · refine fr_pc (pc' := 9) rfl ?_
    refine fp_bipush (v := (-5 : Int32)) dd_Office_addLaw_9 (by decide) (fr_pc (pc' := 11) rfl ?_)
    exact fr_iret (v := (-5 : Int32)) rfl rfl dd_Office_addLaw_11
theorem mt_Office_goes : sf_Mt ({ cls := "SplitFares$Office", name := "goes", desc := "(III)Z" } : Jvm.MethodName) prog_5_method_5_code 5 (some .boolean) 3 := ⟨sw_805, sw_3, ⟨by decide, by decide, by decide +kernel⟩, by decide⟩
theorem dd_Office_goes_0 : decode prog_5_method_5_code 0 = .ok (.aload_n 0, 1) := by decide +kernel
theorem dd_Office_goes_1 : decode prog_5_method_5_code 1 = .ok (.iload_n 1, 1) := by decide +kernel
theorem dd_Office_goes_2 : decode prog_5_method_5_code 2 = .ok (.invokevirtual 82, 3) := by decide +kernel
theorem dd_Office_goes_5 : decode prog_5_method_5_code 5 = .ok (.ifCond .eq 11, 3) := by decide +kernel
theorem dd_Office_goes_8 : decode prog_5_method_5_code 8 = .ok (.iload_n 2, 1) := by decide +kernel
theorem dd_Office_goes_9 : decode prog_5_method_5_code 9 = .ok (.iload_n 3, 1) := by decide +kernel
theorem dd_Office_goes_10 : decode prog_5_method_5_code 10 = .ok (.invokestatic 86, 3) := by decide +kernel
theorem dd_Office_goes_13 : decode prog_5_method_5_code 13 = .ok (.ifCond .ne 5, 3) := by decide +kernel
theorem dd_Office_goes_18 : decode prog_5_method_5_code 18 = .ok (.aload_n 0, 1) := by decide +kernel
theorem dd_Office_goes_19 : decode prog_5_method_5_code 19 = .ok (.getfield 22, 3) := by decide +kernel
theorem dd_Office_goes_22 : decode prog_5_method_5_code 22 = .ok (.iload_n 1, 1) := by decide +kernel
theorem dd_Office_goes_23 : decode prog_5_method_5_code 23 = .ok (.iaload, 1) := by decide +kernel
theorem dd_Office_goes_24 : decode prog_5_method_5_code 24 = .ok (.iload_n 2, 1) := by decide +kernel
theorem dd_Office_goes_25 : decode prog_5_method_5_code 25 = .ok (.ishr, 1) := by decide +kernel
theorem dd_Office_goes_26 : decode prog_5_method_5_code 26 = .ok (.iconst 1, 1) := by decide +kernel
theorem dd_Office_goes_27 : decode prog_5_method_5_code 27 = .ok (.iand, 1) := by decide +kernel
theorem dd_Office_goes_28 : decode prog_5_method_5_code 28 = .ok (.iconst 1, 1) := by decide +kernel
theorem dd_Office_goes_29 : decode prog_5_method_5_code 29 = .ok (.if_icmp .ne 21, 3) := by decide +kernel
theorem dd_Office_goes_32 : decode prog_5_method_5_code 32 = .ok (.aload_n 0, 1) := by decide +kernel
theorem dd_Office_goes_33 : decode prog_5_method_5_code 33 = .ok (.getfield 22, 3) := by decide +kernel
theorem dd_Office_goes_36 : decode prog_5_method_5_code 36 = .ok (.iload_n 1, 1) := by decide +kernel
theorem dd_Office_goes_37 : decode prog_5_method_5_code 37 = .ok (.iaload, 1) := by decide +kernel
theorem dd_Office_goes_38 : decode prog_5_method_5_code 38 = .ok (.iload_n 3, 1) := by decide +kernel
theorem dd_Office_goes_39 : decode prog_5_method_5_code 39 = .ok (.ishr, 1) := by decide +kernel
theorem dd_Office_goes_40 : decode prog_5_method_5_code 40 = .ok (.iconst 1, 1) := by decide +kernel
theorem dd_Office_goes_41 : decode prog_5_method_5_code 41 = .ok (.iand, 1) := by decide +kernel
theorem dd_Office_goes_42 : decode prog_5_method_5_code 42 = .ok (.iconst 1, 1) := by decide +kernel
theorem dd_Office_goes_43 : decode prog_5_method_5_code 43 = .ok (.if_icmp .ne 7, 3) := by decide +kernel
theorem dd_Office_goes_46 : decode prog_5_method_5_code 46 = .ok (.iconst 1, 1) := by decide +kernel
theorem dd_Office_goes_47 : decode prog_5_method_5_code 47 = .ok (.goto 4, 3) := by decide +kernel
theorem dd_Office_goes_50 : decode prog_5_method_5_code 50 = .ok (.iconst 0, 1) := by decide +kernel
theorem dd_Office_goes_51 : decode prog_5_method_5_code 51 = .ok (.istore 4, 2) := by decide +kernel
theorem dd_Office_goes_53 : decode prog_5_method_5_code 53 = .ok (.iload 4, 2) := by decide +kernel
theorem dd_Office_goes_55 : decode prog_5_method_5_code 55 = .ok (.ifCond .eq 35, 3) := by decide +kernel
theorem dd_Office_goes_58 : decode prog_5_method_5_code 58 = .ok (.iload_n 3, 1) := by decide +kernel
theorem dd_Office_goes_59 : decode prog_5_method_5_code 59 = .ok (.iload_n 2, 1) := by decide +kernel
theorem dd_Office_goes_60 : decode prog_5_method_5_code 60 = .ok (.if_icmp .le 7, 3) := by decide +kernel
theorem dd_Office_goes_63 : decode prog_5_method_5_code 63 = .ok (.iconst 1, 1) := by decide +kernel
theorem dd_Office_goes_64 : decode prog_5_method_5_code 64 = .ok (.goto 4, 3) := by decide +kernel
theorem dd_Office_goes_67 : decode prog_5_method_5_code 67 = .ok (.iconst 0, 1) := by decide +kernel
theorem dd_Office_goes_68 : decode prog_5_method_5_code 68 = .ok (.aload_n 0, 1) := by decide +kernel
theorem dd_Office_goes_69 : decode prog_5_method_5_code 69 = .ok (.getfield 26, 3) := by decide +kernel
theorem dd_Office_goes_72 : decode prog_5_method_5_code 72 = .ok (.iload_n 1, 1) := by decide +kernel
theorem dd_Office_goes_73 : decode prog_5_method_5_code 73 = .ok (.iaload, 1) := by decide +kernel
theorem dd_Office_goes_74 : decode prog_5_method_5_code 74 = .ok (.iconst 1, 1) := by decide +kernel
theorem dd_Office_goes_75 : decode prog_5_method_5_code 75 = .ok (.if_icmp .ne 7, 3) := by decide +kernel
theorem dd_Office_goes_78 : decode prog_5_method_5_code 78 = .ok (.iconst 1, 1) := by decide +kernel
theorem dd_Office_goes_79 : decode prog_5_method_5_code 79 = .ok (.goto 4, 3) := by decide +kernel
theorem dd_Office_goes_82 : decode prog_5_method_5_code 82 = .ok (.iconst 0, 1) := by decide +kernel
theorem dd_Office_goes_83 : decode prog_5_method_5_code 83 = .ok (.if_icmp .ne 7, 3) := by decide +kernel
theorem dd_Office_goes_86 : decode prog_5_method_5_code 86 = .ok (.iconst 1, 1) := by decide +kernel
theorem dd_Office_goes_87 : decode prog_5_method_5_code 87 = .ok (.goto 4, 3) := by decide +kernel
theorem dd_Office_goes_90 : decode prog_5_method_5_code 90 = .ok (.iconst 0, 1) := by decide +kernel
theorem dd_Office_goes_91 : decode prog_5_method_5_code 91 = .ok (.ireturn, 1) := by decide +kernel
theorem dd_Office_goes_16 : decode prog_5_method_5_code 16 = .ok (.iconst 0, 1) := by decide +kernel
theorem dd_Office_goes_17 : decode prog_5_method_5_code 17 = .ok (.ireturn, 1) := by decide +kernel
def jx_Office_goes (p0 : Option Nat) (p1 : Int32) (p2 : Int32) (p3 : Int32) : sf_M (Int32) :=
  sf_bnd (sf_rc 4 p0 (jx_Office_hasTrain p0 p1)) fun x1 =>
  if x1 = 0 then (
  sf_ret (0 : Int32)
  ) else (
  sf_bnd (jx_SF_isLeg p2 p3) fun x3 =>
  if x3 = 0 then (
  sf_ret (0 : Int32)
  ) else (
  sf_bnd (sf_gR 4 2 p0) fun x5 =>
  sf_bnd (sf_aI 0 x5 p1) fun x6 =>
  sf_bnd (α := (Int32)) (
  sf_or (α := (Int32)) (β := (Unit)) (
  if ((x6 >>> (p2 &&& 31)) &&& (1 : Int32)) = (1 : Int32) then (
  sf_bnd (sf_gR 4 2 p0) fun x8 =>
  sf_bnd (sf_aI 0 x8 p1) fun x9 =>
  if ((x9 >>> (p3 &&& 31)) &&& (1 : Int32)) = (1 : Int32) then (
  sf_ret (.inl (1 : Int32))
  ) else (
  sf_ret (.inr ())
  )
  ) else (
  sf_ret (.inr ())
  )
  ) (fun v11 =>
  sf_ret (0 : Int32)
  )
  ) (fun v12 =>
  if v12 = 0 then (
  sf_ret (0 : Int32)
  ) else (
  sf_bnd (α := (Int32)) (
  if p3 ≤ p2 then (
  sf_ret (0 : Int32)
  ) else (
  sf_ret (1 : Int32)
  )
  ) (fun v15 =>
  sf_bnd (sf_gR 4 3 p0) fun x16 =>
  sf_bnd (sf_aI 0 x16 p1) fun x17 =>
  sf_bnd (α := (Int32)) (
  if x17 = (1 : Int32) then (
  sf_ret (1 : Int32)
  ) else (
  sf_ret (0 : Int32)
  )
  ) (fun v19 =>
  if v15 = v19 then (
  sf_ret (1 : Int32)
  ) else (
  sf_ret (0 : Int32)
  )
  )
  )
  )
  )
  )
  )
set_option maxRecDepth 20000 in
set_option maxHeartbeats 4000000 in
theorem ok_Office_goes (p0 : Option Nat) (p1 : Int32) (p2 : Int32) (p3 : Int32) : sf_Ok ({ cls := "SplitFares$Office", name := "goes", desc := "(III)Z" } : Jvm.MethodName) prog_5_method_5_code 5 (some .boolean) 2 [sf_rv p0, .int p1, .int p2, .int p3] (jx_Office_goes p0 p1 p2 p3) (fun r => some (.int r)) := by
  refine sf_Ok.of (env := [some (sf_rv p0), some (.int p1), some (.int p2), some (.int p3), none]) (plainFor_of_name (by decide)) [false, false, false, false] (fun G => ⟨pk_r, pk_i, pk_i, pk_i, trivial⟩) (Nat.le_of_ble_eq_true rfl) rfl (fun X => ?_)
  unfold jx_Office_goes
  refine fp_aload_n (i := 0) (r := p0) dd_Office_goes_0 rfl rfl (fr_pc (pc' := 1) rfl ?_)
  refine fp_iload_n (i := 1) (x := p1) dd_Office_goes_1 rfl rfl (fr_pc (pc' := 2) rfl ?_)
  refine fr_callV (stk := []) (As := [.int p1]) cl_4 (ok_Office_hasTrain p0 p1) mt_Office_hasTrain rfl rfl sw_467 sw_387 sw_388 (by decide) (Nat.le_of_ble_eq_true rfl) dd_Office_goes_2 (fun x1 => fr_to (pc' := 5) (env' := [some (sf_rv p0), some (.int p1), some (.int p2), some (.int p3), none]) (stk' := [.int x1]) rfl rfl rfl ?_)
  refine fr_if_eq (tgt := 16) dd_Office_goes_5 rfl (fun _ => ?_) (fun _ => ?_)
  · refine fp_iconst (v := (0 : Int32)) dd_Office_goes_16 (by decide) (fr_pc (pc' := 17) rfl ?_)
    exact fr_zret0 (v := (0 : Int32)) (Or.inl rfl) rfl rfl dd_Office_goes_17
  · refine fr_pc (pc' := 8) rfl ?_
    refine fp_iload_n (i := 2) (x := p2) dd_Office_goes_8 rfl rfl (fr_pc (pc' := 9) rfl ?_)
    refine fp_iload_n (i := 3) (x := p3) dd_Office_goes_9 rfl rfl (fr_pc (pc' := 10) rfl ?_)
    refine fr_callSN (stk := []) (ok_SF_isLeg p2 p3) mt_SF_isLeg rfl rfl sn_806 sw_398 (by decide) (Nat.le_of_ble_eq_true rfl) dd_Office_goes_10 (fun x3 => fr_to (pc' := 13) (env' := [some (sf_rv p0), some (.int p1), some (.int p2), some (.int p3), none]) (stk' := [.int x3]) rfl rfl rfl ?_)
    refine fr_if_ne (tgt := 18) dd_Office_goes_13 rfl (fun _ => ?_) (fun _ => ?_)
    · refine fr_pc (pc' := 16) rfl ?_
      refine fp_iconst (v := (0 : Int32)) dd_Office_goes_16 (by decide) (fr_pc (pc' := 17) rfl ?_)
      exact fr_zret0 (v := (0 : Int32)) (Or.inl rfl) rfl rfl dd_Office_goes_17
    · refine fp_aload_n (i := 0) (r := p0) dd_Office_goes_18 rfl rfl (fr_pc (pc' := 19) rfl ?_)
      refine fr_gR cl_4 2 (by decide) rfl sw_92 dd_Office_goes_19 (fun x5 => fr_pc (pc' := 22) rfl ?_)
      refine fp_iload_n (i := 1) (x := p1) dd_Office_goes_22 rfl rfl (fr_pc (pc' := 23) rfl ?_)
      refine fr_aI0 dd_Office_goes_23 (fun x6 => fr_pc (pc' := 24) rfl ?_)
      refine fp_iload_n (i := 2) (x := p2) dd_Office_goes_24 rfl rfl (fr_pc (pc' := 25) rfl ?_)
      refine fp_ishr dd_Office_goes_25 (fr_pc (pc' := 26) rfl ?_)
      refine fp_iconst (v := (1 : Int32)) dd_Office_goes_26 (by decide) (fr_pc (pc' := 27) rfl ?_)
      refine fp_iand dd_Office_goes_27 (fr_pc (pc' := 28) rfl ?_)
      refine fp_iconst (v := (1 : Int32)) dd_Office_goes_28 (by decide) (fr_pc (pc' := 29) rfl ?_)
      refine fr_bnd (l1 := (fun (v12 : (Int32)) => sf_p 51 [some (sf_rv p0), some (.int p1), some (.int p2), some (.int p3), none] [.int v12])) ?_ (fun v12 => ?_)
      · refine fr_or (l1 := (fun (v11 : (Unit)) => sf_p 50 [some (sf_rv p0), some (.int p1), some (.int p2), some (.int p3), none] [])) ?_ (fun v11 => ?_)
        · refine fr_icmp_ne (tgt := 50) dd_Office_goes_29 rfl (fun _ => ?_) (fun _ => ?_)
          · refine fr_pc (pc' := 32) rfl ?_
            refine fp_aload_n (i := 0) (r := p0) dd_Office_goes_32 rfl rfl (fr_pc (pc' := 33) rfl ?_)
            refine fr_gR cl_4 2 (by decide) rfl sw_92 dd_Office_goes_33 (fun x8 => fr_pc (pc' := 36) rfl ?_)
            refine fp_iload_n (i := 1) (x := p1) dd_Office_goes_36 rfl rfl (fr_pc (pc' := 37) rfl ?_)
            refine fr_aI0 dd_Office_goes_37 (fun x9 => fr_pc (pc' := 38) rfl ?_)
            refine fp_iload_n (i := 3) (x := p3) dd_Office_goes_38 rfl rfl (fr_pc (pc' := 39) rfl ?_)
            refine fp_ishr dd_Office_goes_39 (fr_pc (pc' := 40) rfl ?_)
            refine fp_iconst (v := (1 : Int32)) dd_Office_goes_40 (by decide) (fr_pc (pc' := 41) rfl ?_)
            refine fp_iand dd_Office_goes_41 (fr_pc (pc' := 42) rfl ?_)
            refine fp_iconst (v := (1 : Int32)) dd_Office_goes_42 (by decide) (fr_pc (pc' := 43) rfl ?_)
            refine fr_icmp_ne (tgt := 50) dd_Office_goes_43 rfl (fun _ => ?_) (fun _ => ?_)
            · refine fr_pc (pc' := 46) rfl ?_
              refine fp_iconst (v := (1 : Int32)) dd_Office_goes_46 (by decide) (fr_pc (pc' := 47) rfl ?_)
              refine fp_goto (tgt := 51) dd_Office_goes_47 rfl ?_
              exact fr_ret rfl
            · exact fr_ret rfl
          · exact fr_ret rfl
        · refine fp_iconst (v := (0 : Int32)) dd_Office_goes_50 (by decide) (fr_pc (pc' := 51) rfl ?_)
          exact fr_ret rfl
      · refine fp_istore (i := 4) dd_Office_goes_51 (Nat.le_of_ble_eq_true rfl) (fun _ => c1_i rfl) (fr_to (pc' := 53) (env' := [some (sf_rv p0), some (.int p1), some (.int p2), some (.int p3), some (.int v12)]) (stk' := []) rfl rfl rfl ?_)
        refine fp_iload (i := 4) (x := v12) dd_Office_goes_53 rfl (fr_pc (pc' := 55) rfl ?_)
        refine fr_if_eq (tgt := 90) dd_Office_goes_55 rfl (fun _ => ?_) (fun _ => ?_)
        · refine fp_iconst (v := (0 : Int32)) dd_Office_goes_90 (by decide) (fr_pc (pc' := 91) rfl ?_)
          exact fr_zret0 (v := (0 : Int32)) (Or.inl rfl) rfl rfl dd_Office_goes_91
        · refine fr_pc (pc' := 58) rfl ?_
          refine fp_iload_n (i := 3) (x := p3) dd_Office_goes_58 rfl rfl (fr_pc (pc' := 59) rfl ?_)
          refine fp_iload_n (i := 2) (x := p2) dd_Office_goes_59 rfl rfl (fr_pc (pc' := 60) rfl ?_)
          refine fr_bnd (l1 := (fun (v15 : (Int32)) => sf_p 68 [some (sf_rv p0), some (.int p1), some (.int p2), some (.int p3), some (.int v12)] [.int v15])) ?_ (fun v15 => ?_)
          · refine fr_icmp_le (tgt := 67) dd_Office_goes_60 rfl (fun _ => ?_) (fun _ => ?_)
            · refine fp_iconst (v := (0 : Int32)) dd_Office_goes_67 (by decide) (fr_pc (pc' := 68) rfl ?_)
              exact fr_ret rfl
            · refine fr_pc (pc' := 63) rfl ?_
              refine fp_iconst (v := (1 : Int32)) dd_Office_goes_63 (by decide) (fr_pc (pc' := 64) rfl ?_)
              refine fp_goto (tgt := 68) dd_Office_goes_64 rfl ?_
              exact fr_ret rfl
          · refine fp_aload_n (i := 0) (r := p0) dd_Office_goes_68 rfl rfl (fr_pc (pc' := 69) rfl ?_)
            refine fr_gR cl_4 3 (by decide) rfl sw_95 dd_Office_goes_69 (fun x16 => fr_pc (pc' := 72) rfl ?_)
            refine fp_iload_n (i := 1) (x := p1) dd_Office_goes_72 rfl rfl (fr_pc (pc' := 73) rfl ?_)
            refine fr_aI0 dd_Office_goes_73 (fun x17 => fr_pc (pc' := 74) rfl ?_)
            refine fp_iconst (v := (1 : Int32)) dd_Office_goes_74 (by decide) (fr_pc (pc' := 75) rfl ?_)
            refine fr_bnd (l1 := (fun (v19 : (Int32)) => sf_p 83 [some (sf_rv p0), some (.int p1), some (.int p2), some (.int p3), some (.int v12)] [.int v19, .int v15])) ?_ (fun v19 => ?_)
            · refine fr_icmp_ne (tgt := 82) dd_Office_goes_75 rfl (fun _ => ?_) (fun _ => ?_)
              · refine fr_pc (pc' := 78) rfl ?_
                refine fp_iconst (v := (1 : Int32)) dd_Office_goes_78 (by decide) (fr_pc (pc' := 79) rfl ?_)
                refine fp_goto (tgt := 83) dd_Office_goes_79 rfl ?_
                exact fr_ret rfl
              · refine fp_iconst (v := (0 : Int32)) dd_Office_goes_82 (by decide) (fr_pc (pc' := 83) rfl ?_)
                exact fr_ret rfl
            · refine fr_icmp_ne (tgt := 90) dd_Office_goes_83 rfl (fun _ => ?_) (fun _ => ?_)
              · refine fr_pc (pc' := 86) rfl ?_
                refine fp_iconst (v := (1 : Int32)) dd_Office_goes_86 (by decide) (fr_pc (pc' := 87) rfl ?_)
                refine fp_goto (tgt := 91) dd_Office_goes_87 rfl ?_
                exact fr_zret0 (v := (1 : Int32)) (Or.inr rfl) rfl rfl dd_Office_goes_91
              · refine fp_iconst (v := (0 : Int32)) dd_Office_goes_90 (by decide) (fr_pc (pc' := 91) rfl ?_)
                exact fr_zret0 (v := (0 : Int32)) (Or.inl rfl) rfl rfl dd_Office_goes_91
theorem mt_Office_addTold : sf_Mt ({ cls := "SplitFares$Office", name := "addTold", desc := "(II)I" } : Jvm.MethodName) prog_5_method_6_code 3 (some .int) 2 := ⟨sw_979, sw_3, ⟨by decide, by decide, by decide +kernel⟩, by decide⟩
theorem dd_Office_addTold_0 : decode prog_5_method_6_code 0 = .ok (.iload_n 1, 1) := by decide +kernel
theorem dd_Office_addTold_1 : decode prog_5_method_6_code 1 = .ok (.invokestatic 90, 3) := by decide +kernel
theorem dd_Office_addTold_4 : decode prog_5_method_6_code 4 = .ok (.ifCond .eq 14, 3) := by decide +kernel
theorem dd_Office_addTold_7 : decode prog_5_method_6_code 7 = .ok (.iload_n 2, 1) := by decide +kernel
theorem dd_Office_addTold_8 : decode prog_5_method_6_code 8 = .ok (.iconst (-1), 1) := by decide +kernel
theorem dd_Office_addTold_9 : decode prog_5_method_6_code 9 = .ok (.if_icmp .lt 9, 3) := by decide +kernel
theorem dd_Office_addTold_12 : decode prog_5_method_6_code 12 = .ok (.iload_n 2, 1) := by decide +kernel
theorem dd_Office_addTold_13 : decode prog_5_method_6_code 13 = .ok (.ldc 93, 2) := by decide +kernel
theorem dd_Office_addTold_15 : decode prog_5_method_6_code 15 = .ok (.if_icmp .le 5, 3) := by decide +kernel
theorem dd_Office_addTold_20 : decode prog_5_method_6_code 20 = .ok (.aload_n 0, 1) := by decide +kernel
theorem dd_Office_addTold_21 : decode prog_5_method_6_code 21 = .ok (.getfield 44, 3) := by decide +kernel
theorem dd_Office_addTold_24 : decode prog_5_method_6_code 24 = .ok (.bipush 6, 2) := by decide +kernel
theorem dd_Office_addTold_26 : decode prog_5_method_6_code 26 = .ok (.if_icmp .lt 6, 3) := by decide +kernel
theorem dd_Office_addTold_29 : decode prog_5_method_6_code 29 = .ok (.bipush (-5), 2) := by decide +kernel
theorem dd_Office_addTold_31 : decode prog_5_method_6_code 31 = .ok (.ireturn, 1) := by decide +kernel
theorem dd_Office_addTold_32 : decode prog_5_method_6_code 32 = .ok (.aload_n 0, 1) := by decide +kernel
theorem dd_Office_addTold_33 : decode prog_5_method_6_code 33 = .ok (.getfield 47, 3) := by decide +kernel
theorem dd_Office_addTold_36 : decode prog_5_method_6_code 36 = .ok (.aload_n 0, 1) := by decide +kernel
theorem dd_Office_addTold_37 : decode prog_5_method_6_code 37 = .ok (.getfield 44, 3) := by decide +kernel
theorem dd_Office_addTold_40 : decode prog_5_method_6_code 40 = .ok (.iload_n 1, 1) := by decide +kernel
theorem dd_Office_addTold_41 : decode prog_5_method_6_code 41 = .ok (.iastore, 1) := by decide +kernel
theorem dd_Office_addTold_42 : decode prog_5_method_6_code 42 = .ok (.aload_n 0, 1) := by decide +kernel
theorem dd_Office_addTold_43 : decode prog_5_method_6_code 43 = .ok (.getfield 50, 3) := by decide +kernel
theorem dd_Office_addTold_46 : decode prog_5_method_6_code 46 = .ok (.aload_n 0, 1) := by decide +kernel
theorem dd_Office_addTold_47 : decode prog_5_method_6_code 47 = .ok (.getfield 44, 3) := by decide +kernel
theorem dd_Office_addTold_50 : decode prog_5_method_6_code 50 = .ok (.iload_n 2, 1) := by decide +kernel
theorem dd_Office_addTold_51 : decode prog_5_method_6_code 51 = .ok (.iastore, 1) := by decide +kernel
theorem dd_Office_addTold_52 : decode prog_5_method_6_code 52 = .ok (.aload_n 0, 1) := by decide +kernel
theorem dd_Office_addTold_53 : decode prog_5_method_6_code 53 = .ok (.dup, 1) := by decide +kernel
theorem dd_Office_addTold_54 : decode prog_5_method_6_code 54 = .ok (.getfield 44, 3) := by decide +kernel
theorem dd_Office_addTold_57 : decode prog_5_method_6_code 57 = .ok (.iconst 1, 1) := by decide +kernel
theorem dd_Office_addTold_58 : decode prog_5_method_6_code 58 = .ok (.iadd, 1) := by decide +kernel
theorem dd_Office_addTold_59 : decode prog_5_method_6_code 59 = .ok (.putfield 44, 3) := by decide +kernel
theorem dd_Office_addTold_62 : decode prog_5_method_6_code 62 = .ok (.aload_n 0, 1) := by decide +kernel
theorem dd_Office_addTold_63 : decode prog_5_method_6_code 63 = .ok (.getfield 44, 3) := by decide +kernel
theorem dd_Office_addTold_66 : decode prog_5_method_6_code 66 = .ok (.ireturn, 1) := by decide +kernel
theorem dd_Office_addTold_18 : decode prog_5_method_6_code 18 = .ok (.iconst (-1), 1) := by decide +kernel
theorem dd_Office_addTold_19 : decode prog_5_method_6_code 19 = .ok (.ireturn, 1) := by decide +kernel
def jx_Office_addTold (p0 : Option Nat) (p1 : Int32) (p2 : Int32) : sf_M (Int32) :=
  sf_bnd (jx_SF_isStation p1) fun x1 =>
  if x1 = 0 then (
  sf_ret (-1 : Int32)
  ) else (
  if p2 < (-1 : Int32) then (
  sf_ret (-1 : Int32)
  ) else (
  if p2 ≤ (99999 : Int32) then (
  sf_bnd (sf_gI 4 8 p0) fun x5 =>
  if x5 < (6 : Int32) then (
  sf_bnd (sf_gR 4 9 p0) fun x7 =>
  sf_bnd (sf_gI 4 8 p0) fun x8 =>
  sf_bnd (sf_sI 0 x7 x8 p1) fun _ =>
  sf_bnd (sf_gR 4 10 p0) fun x9 =>
  sf_bnd (sf_gI 4 8 p0) fun x10 =>
  sf_bnd (sf_sI 0 x9 x10 p2) fun _ =>
  sf_bnd (sf_gI 4 8 p0) fun x11 =>
  sf_bnd (sf_pI 4 8 p0 (x11 + (1 : Int32))) fun _ =>
  sf_bnd (sf_gI 4 8 p0) fun x12 =>
  sf_ret x12
  ) else (
  sf_ret (-5 : Int32)
  )
  ) else (
  sf_ret (-1 : Int32)
  )
  )
  )
set_option maxRecDepth 20000 in
set_option maxHeartbeats 4000000 in
theorem ok_Office_addTold (p0 : Option Nat) (p1 : Int32) (p2 : Int32) : sf_Ok ({ cls := "SplitFares$Office", name := "addTold", desc := "(II)I" } : Jvm.MethodName) prog_5_method_6_code 3 (some .int) 1 [sf_rv p0, .int p1, .int p2] (jx_Office_addTold p0 p1 p2) (fun r => some (.int r)) := by
  refine sf_Ok.of (env := [some (sf_rv p0), some (.int p1), some (.int p2)]) (plainFor_of_name (by decide)) [false, false, false] (fun G => ⟨pk_r, pk_i, pk_i, trivial⟩) (Nat.le_of_ble_eq_true rfl) rfl (fun X => ?_)
  unfold jx_Office_addTold
  refine fp_iload_n (i := 1) (x := p1) dd_Office_addTold_0 rfl rfl (fr_pc (pc' := 1) rfl ?_)
  refine fr_callSN (stk := []) (ok_SF_isStation p1) mt_SF_isStation rfl rfl sn_980 sw_401 (by decide) (Nat.le_of_ble_eq_true rfl) dd_Office_addTold_1 (fun x1 => fr_to (pc' := 4) (env' := [some (sf_rv p0), some (.int p1), some (.int p2)]) (stk' := [.int x1]) rfl rfl rfl ?_)
  refine fr_if_eq (tgt := 18) dd_Office_addTold_4 rfl (fun _ => ?_) (fun _ => ?_)
  · refine fp_iconst (v := (-1 : Int32)) dd_Office_addTold_18 (by decide) (fr_pc (pc' := 19) rfl ?_)
    exact fr_iret (v := (-1 : Int32)) rfl rfl dd_Office_addTold_19
  · refine fr_pc (pc' := 7) rfl ?_
    refine fp_iload_n (i := 2) (x := p2) dd_Office_addTold_7 rfl rfl (fr_pc (pc' := 8) rfl ?_)
    refine fp_iconst (v := (-1 : Int32)) dd_Office_addTold_8 (by decide) (fr_pc (pc' := 9) rfl ?_)
    refine fr_icmp_lt (tgt := 18) dd_Office_addTold_9 rfl (fun _ => ?_) (fun _ => ?_)
    · refine fp_iconst (v := (-1 : Int32)) dd_Office_addTold_18 (by decide) (fr_pc (pc' := 19) rfl ?_)
      exact fr_iret (v := (-1 : Int32)) rfl rfl dd_Office_addTold_19
    · refine fr_pc (pc' := 12) rfl ?_
      refine fp_iload_n (i := 2) (x := p2) dd_Office_addTold_12 rfl rfl (fr_pc (pc' := 13) rfl ?_)
      refine fp_ldc (v := (99999 : Int32)) dd_Office_addTold_13 sw_981 (fr_pc (pc' := 15) rfl ?_)
      refine fr_icmp_le (tgt := 20) dd_Office_addTold_15 rfl (fun _ => ?_) (fun _ => ?_)
      · refine fp_aload_n (i := 0) (r := p0) dd_Office_addTold_20 rfl rfl (fr_pc (pc' := 21) rfl ?_)
        refine fr_gI cl_4 8 (by decide) rfl sw_104 dd_Office_addTold_21 (fun x5 => fr_pc (pc' := 24) rfl ?_)
        refine fp_bipush (v := (6 : Int32)) dd_Office_addTold_24 (by decide) (fr_pc (pc' := 26) rfl ?_)
        refine fr_icmp_lt (tgt := 32) dd_Office_addTold_26 rfl (fun _ => ?_) (fun _ => ?_)
        · refine fp_aload_n (i := 0) (r := p0) dd_Office_addTold_32 rfl rfl (fr_pc (pc' := 33) rfl ?_)
          refine fr_gR cl_4 9 (by decide) rfl sw_106 dd_Office_addTold_33 (fun x7 => fr_pc (pc' := 36) rfl ?_)
          refine fp_aload_n (i := 0) (r := p0) dd_Office_addTold_36 rfl rfl (fr_pc (pc' := 37) rfl ?_)
          refine fr_gI cl_4 8 (by decide) rfl sw_104 dd_Office_addTold_37 (fun x8 => fr_pc (pc' := 40) rfl ?_)
          refine fp_iload_n (i := 1) (x := p1) dd_Office_addTold_40 rfl rfl (fr_pc (pc' := 41) rfl ?_)
          refine fr_sI0 dd_Office_addTold_41 (fr_pc (pc' := 42) rfl ?_)
          refine fp_aload_n (i := 0) (r := p0) dd_Office_addTold_42 rfl rfl (fr_pc (pc' := 43) rfl ?_)
          refine fr_gR cl_4 10 (by decide) rfl sw_108 dd_Office_addTold_43 (fun x9 => fr_pc (pc' := 46) rfl ?_)
          refine fp_aload_n (i := 0) (r := p0) dd_Office_addTold_46 rfl rfl (fr_pc (pc' := 47) rfl ?_)
          refine fr_gI cl_4 8 (by decide) rfl sw_104 dd_Office_addTold_47 (fun x10 => fr_pc (pc' := 50) rfl ?_)
          refine fp_iload_n (i := 2) (x := p2) dd_Office_addTold_50 rfl rfl (fr_pc (pc' := 51) rfl ?_)
          refine fr_sI0 dd_Office_addTold_51 (fr_pc (pc' := 52) rfl ?_)
          refine fp_aload_n (i := 0) (r := p0) dd_Office_addTold_52 rfl rfl (fr_pc (pc' := 53) rfl ?_)
          refine fp_dup_r dd_Office_addTold_53 (fr_pc (pc' := 54) rfl ?_)
          refine fr_gI cl_4 8 (by decide) rfl sw_104 dd_Office_addTold_54 (fun x11 => fr_pc (pc' := 57) rfl ?_)
          refine fp_iconst (v := (1 : Int32)) dd_Office_addTold_57 (by decide) (fr_pc (pc' := 58) rfl ?_)
          refine fp_iadd dd_Office_addTold_58 (fr_pc (pc' := 59) rfl ?_)
          refine fr_pI cl_4 8 (by decide) rfl sw_104 rfl ⟨rfl, rfl⟩ dd_Office_addTold_59 (fr_pc (pc' := 62) rfl ?_)
          refine fp_aload_n (i := 0) (r := p0) dd_Office_addTold_62 rfl rfl (fr_pc (pc' := 63) rfl ?_)
          refine fr_gI cl_4 8 (by decide) rfl sw_104 dd_Office_addTold_63 (fun x12 => fr_pc (pc' := 66) rfl ?_)
          exact fr_iret (v := x12) rfl rfl dd_Office_addTold_66
        · refine fr_pc (pc' := 29) rfl ?_
          refine fp_bipush (v := (-5 : Int32)) dd_Office_addTold_29 (by decide) (fr_pc (pc' := 31) rfl ?_)
          exact fr_iret (v := (-5 : Int32)) rfl rfl dd_Office_addTold_31
      · refine fr_pc (pc' := 18) rfl ?_
        refine fp_iconst (v := (-1 : Int32)) dd_Office_addTold_18 (by decide) (fr_pc (pc' := 19) rfl ?_)
        exact fr_iret (v := (-1 : Int32)) rfl rfl dd_Office_addTold_19
theorem mt_Office_copyFrom : sf_Mt ({ cls := "SplitFares$Office", name := "copyFrom", desc := "(LSplitFares$Office;)V" } : Jvm.MethodName) prog_5_method_2_code 3 none 1 := ⟨sw_1049, sw_3, ⟨by decide, by decide, by decide +kernel⟩, by decide⟩
theorem dd_Office_copyFrom_0 : decode prog_5_method_2_code 0 = .ok (.aload_n 0, 1) := by decide +kernel
theorem dd_Office_copyFrom_1 : decode prog_5_method_2_code 1 = .ok (.getfield 12, 3) := by decide +kernel
theorem dd_Office_copyFrom_4 : decode prog_5_method_2_code 4 = .ok (.aload_n 1, 1) := by decide +kernel
theorem dd_Office_copyFrom_5 : decode prog_5_method_2_code 5 = .ok (.getfield 12, 3) := by decide +kernel
theorem dd_Office_copyFrom_8 : decode prog_5_method_2_code 8 = .ok (.invokevirtual 66, 3) := by decide +kernel
theorem dd_Office_copyFrom_11 : decode prog_5_method_2_code 11 = .ok (.aload_n 0, 1) := by decide +kernel
theorem dd_Office_copyFrom_12 : decode prog_5_method_2_code 12 = .ok (.aload_n 1, 1) := by decide +kernel
theorem dd_Office_copyFrom_13 : decode prog_5_method_2_code 13 = .ok (.getfield 18, 3) := by decide +kernel
theorem dd_Office_copyFrom_16 : decode prog_5_method_2_code 16 = .ok (.putfield 18, 3) := by decide +kernel
theorem dd_Office_copyFrom_19 : decode prog_5_method_2_code 19 = .ok (.aload_n 1, 1) := by decide +kernel
theorem dd_Office_copyFrom_20 : decode prog_5_method_2_code 20 = .ok (.getfield 22, 3) := by decide +kernel
theorem dd_Office_copyFrom_23 : decode prog_5_method_2_code 23 = .ok (.iconst 0, 1) := by decide +kernel
theorem dd_Office_copyFrom_24 : decode prog_5_method_2_code 24 = .ok (.aload_n 0, 1) := by decide +kernel
theorem dd_Office_copyFrom_25 : decode prog_5_method_2_code 25 = .ok (.getfield 22, 3) := by decide +kernel
theorem dd_Office_copyFrom_28 : decode prog_5_method_2_code 28 = .ok (.iconst 0, 1) := by decide +kernel
theorem dd_Office_copyFrom_29 : decode prog_5_method_2_code 29 = .ok (.bipush 6, 2) := by decide +kernel
theorem dd_Office_copyFrom_31 : decode prog_5_method_2_code 31 = .ok (.invokestatic 70, 3) := by decide +kernel
theorem dd_Office_copyFrom_34 : decode prog_5_method_2_code 34 = .ok (.aload_n 1, 1) := by decide +kernel
theorem dd_Office_copyFrom_35 : decode prog_5_method_2_code 35 = .ok (.getfield 26, 3) := by decide +kernel
theorem dd_Office_copyFrom_38 : decode prog_5_method_2_code 38 = .ok (.iconst 0, 1) := by decide +kernel
theorem dd_Office_copyFrom_39 : decode prog_5_method_2_code 39 = .ok (.aload_n 0, 1) := by decide +kernel
theorem dd_Office_copyFrom_40 : decode prog_5_method_2_code 40 = .ok (.getfield 26, 3) := by decide +kernel
theorem dd_Office_copyFrom_43 : decode prog_5_method_2_code 43 = .ok (.iconst 0, 1) := by decide +kernel
theorem dd_Office_copyFrom_44 : decode prog_5_method_2_code 44 = .ok (.bipush 6, 2) := by decide +kernel
theorem dd_Office_copyFrom_46 : decode prog_5_method_2_code 46 = .ok (.invokestatic 70, 3) := by decide +kernel
theorem dd_Office_copyFrom_49 : decode prog_5_method_2_code 49 = .ok (.aload_n 1, 1) := by decide +kernel
theorem dd_Office_copyFrom_50 : decode prog_5_method_2_code 50 = .ok (.getfield 29, 3) := by decide +kernel
theorem dd_Office_copyFrom_53 : decode prog_5_method_2_code 53 = .ok (.iconst 0, 1) := by decide +kernel
theorem dd_Office_copyFrom_54 : decode prog_5_method_2_code 54 = .ok (.aload_n 0, 1) := by decide +kernel
theorem dd_Office_copyFrom_55 : decode prog_5_method_2_code 55 = .ok (.getfield 29, 3) := by decide +kernel
theorem dd_Office_copyFrom_58 : decode prog_5_method_2_code 58 = .ok (.iconst 0, 1) := by decide +kernel
theorem dd_Office_copyFrom_59 : decode prog_5_method_2_code 59 = .ok (.bipush 6, 2) := by decide +kernel
theorem dd_Office_copyFrom_61 : decode prog_5_method_2_code 61 = .ok (.invokestatic 70, 3) := by decide +kernel
theorem dd_Office_copyFrom_64 : decode prog_5_method_2_code 64 = .ok (.aload_n 0, 1) := by decide +kernel
theorem dd_Office_copyFrom_65 : decode prog_5_method_2_code 65 = .ok (.aload_n 1, 1) := by decide +kernel
theorem dd_Office_copyFrom_66 : decode prog_5_method_2_code 66 = .ok (.getfield 32, 3) := by decide +kernel
theorem dd_Office_copyFrom_69 : decode prog_5_method_2_code 69 = .ok (.putfield 32, 3) := by decide +kernel
theorem dd_Office_copyFrom_72 : decode prog_5_method_2_code 72 = .ok (.aload_n 0, 1) := by decide +kernel
theorem dd_Office_copyFrom_73 : decode prog_5_method_2_code 73 = .ok (.aload_n 1, 1) := by decide +kernel
theorem dd_Office_copyFrom_74 : decode prog_5_method_2_code 74 = .ok (.getfield 35, 3) := by decide +kernel
theorem dd_Office_copyFrom_77 : decode prog_5_method_2_code 77 = .ok (.putfield 35, 3) := by decide +kernel
theorem dd_Office_copyFrom_80 : decode prog_5_method_2_code 80 = .ok (.iconst 0, 1) := by decide +kernel
theorem dd_Office_copyFrom_81 : decode prog_5_method_2_code 81 = .ok (.istore_n 2, 1) := by decide +kernel
theorem dd_Office_copyFrom_82 : decode prog_5_method_2_code 82 = .ok (.iload_n 2, 1) := by decide +kernel
theorem dd_Office_copyFrom_83 : decode prog_5_method_2_code 83 = .ok (.bipush 6, 2) := by decide +kernel
theorem dd_Office_copyFrom_85 : decode prog_5_method_2_code 85 = .ok (.if_icmp .ge 21, 3) := by decide +kernel
theorem dd_Office_copyFrom_88 : decode prog_5_method_2_code 88 = .ok (.aload_n 0, 1) := by decide +kernel
theorem dd_Office_copyFrom_89 : decode prog_5_method_2_code 89 = .ok (.getfield 40, 3) := by decide +kernel
theorem dd_Office_copyFrom_92 : decode prog_5_method_2_code 92 = .ok (.iload_n 2, 1) := by decide +kernel
theorem dd_Office_copyFrom_93 : decode prog_5_method_2_code 93 = .ok (.aload_n 1, 1) := by decide +kernel
theorem dd_Office_copyFrom_94 : decode prog_5_method_2_code 94 = .ok (.getfield 40, 3) := by decide +kernel
theorem dd_Office_copyFrom_97 : decode prog_5_method_2_code 97 = .ok (.iload_n 2, 1) := by decide +kernel
theorem dd_Office_copyFrom_98 : decode prog_5_method_2_code 98 = .ok (.aaload, 1) := by decide +kernel
theorem dd_Office_copyFrom_99 : decode prog_5_method_2_code 99 = .ok (.aastore, 1) := by decide +kernel
theorem dd_Office_copyFrom_100 : decode prog_5_method_2_code 100 = .ok (.iinc 2 1, 3) := by decide +kernel
theorem dd_Office_copyFrom_103 : decode prog_5_method_2_code 103 = .ok (.goto (-21), 3) := by decide +kernel
theorem dd_Office_copyFrom_106 : decode prog_5_method_2_code 106 = .ok (.aload_n 0, 1) := by decide +kernel
theorem dd_Office_copyFrom_107 : decode prog_5_method_2_code 107 = .ok (.aload_n 1, 1) := by decide +kernel
theorem dd_Office_copyFrom_108 : decode prog_5_method_2_code 108 = .ok (.getfield 44, 3) := by decide +kernel
theorem dd_Office_copyFrom_111 : decode prog_5_method_2_code 111 = .ok (.putfield 44, 3) := by decide +kernel
theorem dd_Office_copyFrom_114 : decode prog_5_method_2_code 114 = .ok (.aload_n 1, 1) := by decide +kernel
theorem dd_Office_copyFrom_115 : decode prog_5_method_2_code 115 = .ok (.getfield 47, 3) := by decide +kernel
theorem dd_Office_copyFrom_118 : decode prog_5_method_2_code 118 = .ok (.iconst 0, 1) := by decide +kernel
theorem dd_Office_copyFrom_119 : decode prog_5_method_2_code 119 = .ok (.aload_n 0, 1) := by decide +kernel
theorem dd_Office_copyFrom_120 : decode prog_5_method_2_code 120 = .ok (.getfield 47, 3) := by decide +kernel
theorem dd_Office_copyFrom_123 : decode prog_5_method_2_code 123 = .ok (.iconst 0, 1) := by decide +kernel
theorem dd_Office_copyFrom_124 : decode prog_5_method_2_code 124 = .ok (.bipush 6, 2) := by decide +kernel
theorem dd_Office_copyFrom_126 : decode prog_5_method_2_code 126 = .ok (.invokestatic 70, 3) := by decide +kernel
theorem dd_Office_copyFrom_129 : decode prog_5_method_2_code 129 = .ok (.aload_n 1, 1) := by decide +kernel
theorem dd_Office_copyFrom_130 : decode prog_5_method_2_code 130 = .ok (.getfield 50, 3) := by decide +kernel
theorem dd_Office_copyFrom_133 : decode prog_5_method_2_code 133 = .ok (.iconst 0, 1) := by decide +kernel
theorem dd_Office_copyFrom_134 : decode prog_5_method_2_code 134 = .ok (.aload_n 0, 1) := by decide +kernel
theorem dd_Office_copyFrom_135 : decode prog_5_method_2_code 135 = .ok (.getfield 50, 3) := by decide +kernel
theorem dd_Office_copyFrom_138 : decode prog_5_method_2_code 138 = .ok (.iconst 0, 1) := by decide +kernel
theorem dd_Office_copyFrom_139 : decode prog_5_method_2_code 139 = .ok (.bipush 6, 2) := by decide +kernel
theorem dd_Office_copyFrom_141 : decode prog_5_method_2_code 141 = .ok (.invokestatic 70, 3) := by decide +kernel
theorem dd_Office_copyFrom_144 : decode prog_5_method_2_code 144 = .ok (.aload_n 0, 1) := by decide +kernel
theorem dd_Office_copyFrom_145 : decode prog_5_method_2_code 145 = .ok (.aload_n 1, 1) := by decide +kernel
theorem dd_Office_copyFrom_146 : decode prog_5_method_2_code 146 = .ok (.getfield 53, 3) := by decide +kernel
theorem dd_Office_copyFrom_149 : decode prog_5_method_2_code 149 = .ok (.putfield 53, 3) := by decide +kernel
theorem dd_Office_copyFrom_152 : decode prog_5_method_2_code 152 = .ok (.aload_n 0, 1) := by decide +kernel
theorem dd_Office_copyFrom_153 : decode prog_5_method_2_code 153 = .ok (.aload_n 1, 1) := by decide +kernel
theorem dd_Office_copyFrom_154 : decode prog_5_method_2_code 154 = .ok (.getfield 56, 3) := by decide +kernel
theorem dd_Office_copyFrom_157 : decode prog_5_method_2_code 157 = .ok (.putfield 56, 3) := by decide +kernel
theorem dd_Office_copyFrom_160 : decode prog_5_method_2_code 160 = .ok (.return_, 1) := by decide +kernel
def jx_Office_copyFrom (p0 : Option Nat) (p1 : Option Nat) : sf_M (Unit) :=
  sf_bnd (sf_gR 4 0 p0) fun x1 =>
  sf_bnd (sf_gR 4 0 p1) fun x2 =>
  sf_bnd (sf_rc 5 x1 (jx_Pocket_copyFrom x1 x2)) fun _ =>
  sf_bnd (sf_gI 4 1 p1) fun x4 =>
  sf_bnd (sf_pI 4 1 p0 x4) fun _ =>
  sf_bnd (sf_gR 4 2 p1) fun x5 =>
  sf_bnd (sf_gR 4 2 p0) fun x6 =>
  sf_bnd (sf_cpI x5 (0 : Int32) x6 (0 : Int32) (6 : Int32)) fun _ =>
  sf_bnd (sf_gR 4 3 p1) fun x7 =>
  sf_bnd (sf_gR 4 3 p0) fun x8 =>
  sf_bnd (sf_cpI x7 (0 : Int32) x8 (0 : Int32) (6 : Int32)) fun _ =>
  sf_bnd (sf_gR 4 4 p1) fun x9 =>
  sf_bnd (sf_gR 4 4 p0) fun x10 =>
  sf_bnd (sf_cpI x9 (0 : Int32) x10 (0 : Int32) (6 : Int32)) fun _ =>
  sf_bnd (sf_gI 4 5 p1) fun x11 =>
  sf_bnd (sf_pI 4 5 p0 x11) fun _ =>
  sf_bnd (sf_gI 4 6 p1) fun x12 =>
  sf_bnd (sf_pI 4 6 p0 x12) fun _ =>
  sf_bnd (sf_loop (β := (Int32)) (γ := (Unit)) (fun b13 =>
  if (6 : Int32) ≤ b13 then (
  sf_ret (.inr ())
  ) else (
  sf_bnd (sf_gR 4 7 p0) fun x15 =>
  sf_bnd (sf_gR 4 7 p1) fun x16 =>
  sf_bnd (sf_aR 6 x16 b13) fun x17 =>
  sf_bnd (sf_sR 6 6 x15 b13 x17) fun _ =>
  sf_bnd (sf_ret (b13 + (1 : Int32))) fun y18 =>
  sf_ret (.inl y18)
  )
  ) sf_fuel (0 : Int32)) (fun e19 =>
  sf_bnd (sf_gI 4 8 p1) fun x20 =>
  sf_bnd (sf_pI 4 8 p0 x20) fun _ =>
  sf_bnd (sf_gR 4 9 p1) fun x21 =>
  sf_bnd (sf_gR 4 9 p0) fun x22 =>
  sf_bnd (sf_cpI x21 (0 : Int32) x22 (0 : Int32) (6 : Int32)) fun _ =>
  sf_bnd (sf_gR 4 10 p1) fun x23 =>
  sf_bnd (sf_gR 4 10 p0) fun x24 =>
  sf_bnd (sf_cpI x23 (0 : Int32) x24 (0 : Int32) (6 : Int32)) fun _ =>
  sf_bnd (sf_gI 4 11 p1) fun x25 =>
  sf_bnd (sf_pI 4 11 p0 x25) fun _ =>
  sf_bnd (sf_gI 4 12 p1) fun x26 =>
  sf_bnd (sf_pI 4 12 p0 x26) fun _ =>
  sf_ret ()
  )
set_option maxRecDepth 20000 in
set_option maxHeartbeats 4000000 in
theorem ok_Office_copyFrom (p0 : Option Nat) (p1 : Option Nat) : sf_Ok ({ cls := "SplitFares$Office", name := "copyFrom", desc := "(LSplitFares$Office;)V" } : Jvm.MethodName) prog_5_method_2_code 3 none 2 [sf_rv p0, sf_rv p1] (jx_Office_copyFrom p0 p1) (fun _ => none) := by
  refine sf_Ok.of (env := [some (sf_rv p0), some (sf_rv p1), none]) (plainFor_of_name (by decide)) [false, false] (fun G => ⟨pk_r, pk_r, trivial⟩) (Nat.le_of_ble_eq_true rfl) rfl (fun X => ?_)
  unfold jx_Office_copyFrom
  refine fp_aload_n (i := 0) (r := p0) dd_Office_copyFrom_0 rfl rfl (fr_pc (pc' := 1) rfl ?_)
  refine fr_gR cl_4 0 (by decide) rfl sw_85 dd_Office_copyFrom_1 (fun x1 => fr_pc (pc' := 4) rfl ?_)
  refine fp_aload_n (i := 1) (r := p1) dd_Office_copyFrom_4 rfl rfl (fr_pc (pc' := 5) rfl ?_)
  refine fr_gR cl_4 0 (by decide) rfl sw_85 dd_Office_copyFrom_5 (fun x2 => fr_pc (pc' := 8) rfl ?_)
  refine fr_callV (stk := []) (As := [sf_rv x2]) cl_5 (ok_Pocket_copyFrom x1 x2) mt_Pocket_copyFrom rfl rfl sw_1050 sw_747 sw_748 (by decide) (Nat.le_of_ble_eq_true rfl) dd_Office_copyFrom_8 (fun u3 => fr_to (pc' := 11) (env' := [some (sf_rv p0), some (sf_rv p1), none]) (stk' := []) rfl rfl rfl ?_)
  refine fp_aload_n (i := 0) (r := p0) dd_Office_copyFrom_11 rfl rfl (fr_pc (pc' := 12) rfl ?_)
  refine fp_aload_n (i := 1) (r := p1) dd_Office_copyFrom_12 rfl rfl (fr_pc (pc' := 13) rfl ?_)
  refine fr_gI cl_4 1 (by decide) rfl sw_89 dd_Office_copyFrom_13 (fun x4 => fr_pc (pc' := 16) rfl ?_)
  refine fr_pI cl_4 1 (by decide) rfl sw_89 rfl ⟨rfl, rfl⟩ dd_Office_copyFrom_16 (fr_pc (pc' := 19) rfl ?_)
  refine fp_aload_n (i := 1) (r := p1) dd_Office_copyFrom_19 rfl rfl (fr_pc (pc' := 20) rfl ?_)
  refine fr_gR cl_4 2 (by decide) rfl sw_92 dd_Office_copyFrom_20 (fun x5 => fr_pc (pc' := 23) rfl ?_)
  refine fp_iconst (v := (0 : Int32)) dd_Office_copyFrom_23 (by decide) (fr_pc (pc' := 24) rfl ?_)
  refine fp_aload_n (i := 0) (r := p0) dd_Office_copyFrom_24 rfl rfl (fr_pc (pc' := 25) rfl ?_)
  refine fr_gR cl_4 2 (by decide) rfl sw_92 dd_Office_copyFrom_25 (fun x6 => fr_pc (pc' := 28) rfl ?_)
  refine fp_iconst (v := (0 : Int32)) dd_Office_copyFrom_28 (by decide) (fr_pc (pc' := 29) rfl ?_)
  refine fp_bipush (v := (6 : Int32)) dd_Office_copyFrom_29 (by decide) (fr_pc (pc' := 31) rfl ?_)
  refine fr_cpI sw_1051 sw_732 sw_731 sw_19 (Nat.le_of_ble_eq_true rfl) (Nat.le_of_ble_eq_true rfl) dd_Office_copyFrom_31 (fr_pc (pc' := 34) rfl ?_)
  refine fp_aload_n (i := 1) (r := p1) dd_Office_copyFrom_34 rfl rfl (fr_pc (pc' := 35) rfl ?_)
  refine fr_gR cl_4 3 (by decide) rfl sw_95 dd_Office_copyFrom_35 (fun x7 => fr_pc (pc' := 38) rfl ?_)
  refine fp_iconst (v := (0 : Int32)) dd_Office_copyFrom_38 (by decide) (fr_pc (pc' := 39) rfl ?_)
  refine fp_aload_n (i := 0) (r := p0) dd_Office_copyFrom_39 rfl rfl (fr_pc (pc' := 40) rfl ?_)
  refine fr_gR cl_4 3 (by decide) rfl sw_95 dd_Office_copyFrom_40 (fun x8 => fr_pc (pc' := 43) rfl ?_)
  refine fp_iconst (v := (0 : Int32)) dd_Office_copyFrom_43 (by decide) (fr_pc (pc' := 44) rfl ?_)
  refine fp_bipush (v := (6 : Int32)) dd_Office_copyFrom_44 (by decide) (fr_pc (pc' := 46) rfl ?_)
  refine fr_cpI sw_1051 sw_732 sw_731 sw_19 (Nat.le_of_ble_eq_true rfl) (Nat.le_of_ble_eq_true rfl) dd_Office_copyFrom_46 (fr_pc (pc' := 49) rfl ?_)
  refine fp_aload_n (i := 1) (r := p1) dd_Office_copyFrom_49 rfl rfl (fr_pc (pc' := 50) rfl ?_)
  refine fr_gR cl_4 4 (by decide) rfl sw_97 dd_Office_copyFrom_50 (fun x9 => fr_pc (pc' := 53) rfl ?_)
  refine fp_iconst (v := (0 : Int32)) dd_Office_copyFrom_53 (by decide) (fr_pc (pc' := 54) rfl ?_)
  refine fp_aload_n (i := 0) (r := p0) dd_Office_copyFrom_54 rfl rfl (fr_pc (pc' := 55) rfl ?_)
  refine fr_gR cl_4 4 (by decide) rfl sw_97 dd_Office_copyFrom_55 (fun x10 => fr_pc (pc' := 58) rfl ?_)
  refine fp_iconst (v := (0 : Int32)) dd_Office_copyFrom_58 (by decide) (fr_pc (pc' := 59) rfl ?_)
  refine fp_bipush (v := (6 : Int32)) dd_Office_copyFrom_59 (by decide) (fr_pc (pc' := 61) rfl ?_)
  refine fr_cpI sw_1051 sw_732 sw_731 sw_19 (Nat.le_of_ble_eq_true rfl) (Nat.le_of_ble_eq_true rfl) dd_Office_copyFrom_61 (fr_pc (pc' := 64) rfl ?_)
  refine fp_aload_n (i := 0) (r := p0) dd_Office_copyFrom_64 rfl rfl (fr_pc (pc' := 65) rfl ?_)
  refine fp_aload_n (i := 1) (r := p1) dd_Office_copyFrom_65 rfl rfl (fr_pc (pc' := 66) rfl ?_)
  refine fr_gI cl_4 5 (by decide) rfl sw_99 dd_Office_copyFrom_66 (fun x11 => fr_pc (pc' := 69) rfl ?_)
  refine fr_pI cl_4 5 (by decide) rfl sw_99 rfl ⟨rfl, rfl⟩ dd_Office_copyFrom_69 (fr_pc (pc' := 72) rfl ?_)
  refine fp_aload_n (i := 0) (r := p0) dd_Office_copyFrom_72 rfl rfl (fr_pc (pc' := 73) rfl ?_)
  refine fp_aload_n (i := 1) (r := p1) dd_Office_copyFrom_73 rfl rfl (fr_pc (pc' := 74) rfl ?_)
  refine fr_gI cl_4 6 (by decide) rfl sw_101 dd_Office_copyFrom_74 (fun x12 => fr_pc (pc' := 77) rfl ?_)
  refine fr_pI cl_4 6 (by decide) rfl sw_101 rfl ⟨rfl, rfl⟩ dd_Office_copyFrom_77 (fr_pc (pc' := 80) rfl ?_)
  refine fp_iconst (v := (0 : Int32)) dd_Office_copyFrom_80 (by decide) (fr_pc (pc' := 81) rfl ?_)
  refine fp_istore_n (i := 2) dd_Office_copyFrom_81 rfl (Nat.le_of_ble_eq_true rfl) (fun _ => c1_r rfl) (fr_to (pc' := 82) (env' := [some (sf_rv p0), some (sf_rv p1), some (.int (0 : Int32))]) (stk' := []) rfl rfl rfl ?_)
  refine fr_to (pc' := 82) (env' := [some (sf_rv p0), some (sf_rv p1), some (.int (0 : Int32))]) (stk' := []) rfl rfl rfl ?_
  refine fr_bnd (l1 := (fun (e19 : (Unit)) => sf_p 106 [some (sf_rv p0), some (sf_rv p1), none] [])) (fr_loop (Lb := (fun (b13 : (Int32)) => sf_p 82 [some (sf_rv p0), some (sf_rv p1), some (.int b13)] [])) (fun b13 => ?_) _ _) (fun e19 => ?_)
  · refine fp_iload_n (i := 2) (x := b13) dd_Office_copyFrom_82 rfl rfl (fr_pc (pc' := 83) rfl ?_)
    refine fp_bipush (v := (6 : Int32)) dd_Office_copyFrom_83 (by decide) (fr_pc (pc' := 85) rfl ?_)
    refine fr_icmp_ge (tgt := 106) dd_Office_copyFrom_85 rfl (fun _ => ?_) (fun _ => ?_)
    · refine fr_wk [true, true, false] ?_
      exact fr_ret rfl
    · refine fr_pc (pc' := 88) rfl ?_
      refine fp_aload_n (i := 0) (r := p0) dd_Office_copyFrom_88 rfl rfl (fr_pc (pc' := 89) rfl ?_)
      refine fr_gR cl_4 7 (by decide) rfl sw_103 dd_Office_copyFrom_89 (fun x15 => fr_pc (pc' := 92) rfl ?_)
      refine fp_iload_n (i := 2) (x := b13) dd_Office_copyFrom_92 rfl rfl (fr_pc (pc' := 93) rfl ?_)
      refine fp_aload_n (i := 1) (r := p1) dd_Office_copyFrom_93 rfl rfl (fr_pc (pc' := 94) rfl ?_)
      refine fr_gR cl_4 7 (by decide) rfl sw_103 dd_Office_copyFrom_94 (fun x16 => fr_pc (pc' := 97) rfl ?_)
      refine fp_iload_n (i := 2) (x := b13) dd_Office_copyFrom_97 rfl rfl (fr_pc (pc' := 98) rfl ?_)
      refine fr_aR (by decide) (by decide) ar_6 dd_Office_copyFrom_98 (fun x17 => fr_pc (pc' := 99) rfl ?_)
      refine fr_sR cl_6 (by decide) (by decide) ar_6 dd_Office_copyFrom_99 (fr_pc (pc' := 100) rfl ?_)
      refine fr_niinc (i := 2) (x := b13) (w := (1 : Int32)) dd_Office_copyFrom_100 rfl (by decide) (Nat.le_of_ble_eq_true rfl) (fun _ => c1_r rfl) (fun y18 => fr_to (pc' := 103) (env' := [some (sf_rv p0), some (sf_rv p1), some (.int y18)]) (stk' := []) rfl rfl rfl ?_)
      refine fp_goto (tgt := 82) dd_Office_copyFrom_103 rfl ?_
      exact fr_ret rfl
  · refine fp_aload_n (i := 0) (r := p0) dd_Office_copyFrom_106 rfl rfl (fr_pc (pc' := 107) rfl ?_)
    refine fp_aload_n (i := 1) (r := p1) dd_Office_copyFrom_107 rfl rfl (fr_pc (pc' := 108) rfl ?_)
    refine fr_gI cl_4 8 (by decide) rfl sw_104 dd_Office_copyFrom_108 (fun x20 => fr_pc (pc' := 111) rfl ?_)
    refine fr_pI cl_4 8 (by decide) rfl sw_104 rfl ⟨rfl, rfl⟩ dd_Office_copyFrom_111 (fr_pc (pc' := 114) rfl ?_)
    refine fp_aload_n (i := 1) (r := p1) dd_Office_copyFrom_114 rfl rfl (fr_pc (pc' := 115) rfl ?_)
    refine fr_gR cl_4 9 (by decide) rfl sw_106 dd_Office_copyFrom_115 (fun x21 => fr_pc (pc' := 118) rfl ?_)
    refine fp_iconst (v := (0 : Int32)) dd_Office_copyFrom_118 (by decide) (fr_pc (pc' := 119) rfl ?_)
    refine fp_aload_n (i := 0) (r := p0) dd_Office_copyFrom_119 rfl rfl (fr_pc (pc' := 120) rfl ?_)
    refine fr_gR cl_4 9 (by decide) rfl sw_106 dd_Office_copyFrom_120 (fun x22 => fr_pc (pc' := 123) rfl ?_)
    refine fp_iconst (v := (0 : Int32)) dd_Office_copyFrom_123 (by decide) (fr_pc (pc' := 124) rfl ?_)
    refine fp_bipush (v := (6 : Int32)) dd_Office_copyFrom_124 (by decide) (fr_pc (pc' := 126) rfl ?_)
    refine fr_cpI sw_1051 sw_732 sw_731 sw_19 (Nat.le_of_ble_eq_true rfl) (Nat.le_of_ble_eq_true rfl) dd_Office_copyFrom_126 (fr_pc (pc' := 129) rfl ?_)
    refine fp_aload_n (i := 1) (r := p1) dd_Office_copyFrom_129 rfl rfl (fr_pc (pc' := 130) rfl ?_)
    refine fr_gR cl_4 10 (by decide) rfl sw_108 dd_Office_copyFrom_130 (fun x23 => fr_pc (pc' := 133) rfl ?_)
    refine fp_iconst (v := (0 : Int32)) dd_Office_copyFrom_133 (by decide) (fr_pc (pc' := 134) rfl ?_)
    refine fp_aload_n (i := 0) (r := p0) dd_Office_copyFrom_134 rfl rfl (fr_pc (pc' := 135) rfl ?_)
    refine fr_gR cl_4 10 (by decide) rfl sw_108 dd_Office_copyFrom_135 (fun x24 => fr_pc (pc' := 138) rfl ?_)
    refine fp_iconst (v := (0 : Int32)) dd_Office_copyFrom_138 (by decide) (fr_pc (pc' := 139) rfl ?_)
    refine fp_bipush (v := (6 : Int32)) dd_Office_copyFrom_139 (by decide) (fr_pc (pc' := 141) rfl ?_)
    refine fr_cpI sw_1051 sw_732 sw_731 sw_19 (Nat.le_of_ble_eq_true rfl) (Nat.le_of_ble_eq_true rfl) dd_Office_copyFrom_141 (fr_pc (pc' := 144) rfl ?_)
    refine fp_aload_n (i := 0) (r := p0) dd_Office_copyFrom_144 rfl rfl (fr_pc (pc' := 145) rfl ?_)
    refine fp_aload_n (i := 1) (r := p1) dd_Office_copyFrom_145 rfl rfl (fr_pc (pc' := 146) rfl ?_)
    refine fr_gI cl_4 11 (by decide) rfl sw_110 dd_Office_copyFrom_146 (fun x25 => fr_pc (pc' := 149) rfl ?_)
    refine fr_pI cl_4 11 (by decide) rfl sw_110 rfl ⟨rfl, rfl⟩ dd_Office_copyFrom_149 (fr_pc (pc' := 152) rfl ?_)
    refine fp_aload_n (i := 0) (r := p0) dd_Office_copyFrom_152 rfl rfl (fr_pc (pc' := 153) rfl ?_)
    refine fp_aload_n (i := 1) (r := p1) dd_Office_copyFrom_153 rfl rfl (fr_pc (pc' := 154) rfl ?_)
    refine fr_gI cl_4 12 (by decide) rfl sw_111 dd_Office_copyFrom_154 (fun x26 => fr_pc (pc' := 157) rfl ?_)
    refine fr_pI cl_4 12 (by decide) rfl sw_111 rfl ⟨rfl, rfl⟩ dd_Office_copyFrom_157 (fr_pc (pc' := 160) rfl ?_)
    exact fr_vret rfl rfl dd_Office_copyFrom_160
