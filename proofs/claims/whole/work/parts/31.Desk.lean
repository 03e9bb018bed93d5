/-! Desk: its methods as plain functions, and that the bytecode runs them (printed by program). -/
theorem mt_Desk_init : sf_Mt ({ cls := "SplitFares$Desk", name := "<init>", desc := "()V" } : Jvm.MethodName) prog_2_method_1_code 1 none 0 := ⟨sw_33, sw_2, ⟨by decide, by decide, by decide +kernel⟩, by decide⟩
theorem dd_Desk_init_0 : decode prog_2_method_1_code 0 = .ok (.aload_n 0, 1) := by decide +kernel
theorem dd_Desk_init_1 : decode prog_2_method_1_code 1 = .ok (.invokespecial 3, 3) := by decide +kernel
theorem dd_Desk_init_4 : decode prog_2_method_1_code 4 = .ok (.aload_n 0, 1) := by decide +kernel
theorem dd_Desk_init_5 : decode prog_2_method_1_code 5 = .ok (.new 9, 3) := by decide +kernel
theorem dd_Desk_init_8 : decode prog_2_method_1_code 8 = .ok (.dup, 1) := by decide +kernel
theorem dd_Desk_init_9 : decode prog_2_method_1_code 9 = .ok (.invokespecial 11, 3) := by decide +kernel
theorem dd_Desk_init_12 : decode prog_2_method_1_code 12 = .ok (.putfield 12, 3) := by decide +kernel
theorem dd_Desk_init_15 : decode prog_2_method_1_code 15 = .ok (.aload_n 0, 1) := by decide +kernel
theorem dd_Desk_init_16 : decode prog_2_method_1_code 16 = .ok (.new 18, 3) := by decide +kernel
theorem dd_Desk_init_19 : decode prog_2_method_1_code 19 = .ok (.dup, 1) := by decide +kernel
theorem dd_Desk_init_20 : decode prog_2_method_1_code 20 = .ok (.invokespecial 20, 3) := by decide +kernel
theorem dd_Desk_init_23 : decode prog_2_method_1_code 23 = .ok (.putfield 21, 3) := by decide +kernel
theorem dd_Desk_init_26 : decode prog_2_method_1_code 26 = .ok (.aload_n 0, 1) := by decide +kernel
theorem dd_Desk_init_27 : decode prog_2_method_1_code 27 = .ok (.new 25, 3) := by decide +kernel
theorem dd_Desk_init_30 : decode prog_2_method_1_code 30 = .ok (.dup, 1) := by decide +kernel
theorem dd_Desk_init_31 : decode prog_2_method_1_code 31 = .ok (.invokespecial 27, 3) := by decide +kernel
theorem dd_Desk_init_34 : decode prog_2_method_1_code 34 = .ok (.putfield 28, 3) := by decide +kernel
theorem dd_Desk_init_37 : decode prog_2_method_1_code 37 = .ok (.aload_n 0, 1) := by decide +kernel
theorem dd_Desk_init_38 : decode prog_2_method_1_code 38 = .ok (.new 25, 3) := by decide +kernel
theorem dd_Desk_init_41 : decode prog_2_method_1_code 41 = .ok (.dup, 1) := by decide +kernel
theorem dd_Desk_init_42 : decode prog_2_method_1_code 42 = .ok (.invokespecial 27, 3) := by decide +kernel
theorem dd_Desk_init_45 : decode prog_2_method_1_code 45 = .ok (.putfield 32, 3) := by decide +kernel
theorem dd_Desk_init_48 : decode prog_2_method_1_code 48 = .ok (.aload_n 0, 1) := by decide +kernel
theorem dd_Desk_init_49 : decode prog_2_method_1_code 49 = .ok (.new 35, 3) := by decide +kernel
theorem dd_Desk_init_52 : decode prog_2_method_1_code 52 = .ok (.dup, 1) := by decide +kernel
theorem dd_Desk_init_53 : decode prog_2_method_1_code 53 = .ok (.invokespecial 37, 3) := by decide +kernel
theorem dd_Desk_init_56 : decode prog_2_method_1_code 56 = .ok (.putfield 38, 3) := by decide +kernel
theorem dd_Desk_init_59 : decode prog_2_method_1_code 59 = .ok (.aload_n 0, 1) := by decide +kernel
theorem dd_Desk_init_60 : decode prog_2_method_1_code 60 = .ok (.new 42, 3) := by decide +kernel
theorem dd_Desk_init_63 : decode prog_2_method_1_code 63 = .ok (.dup, 1) := by decide +kernel
theorem dd_Desk_init_64 : decode prog_2_method_1_code 64 = .ok (.invokespecial 44, 3) := by decide +kernel
theorem dd_Desk_init_67 : decode prog_2_method_1_code 67 = .ok (.putfield 45, 3) := by decide +kernel
theorem dd_Desk_init_70 : decode prog_2_method_1_code 70 = .ok (.aload_n 0, 1) := by decide +kernel
theorem dd_Desk_init_71 : decode prog_2_method_1_code 71 = .ok (.iconst 0, 1) := by decide +kernel
theorem dd_Desk_init_72 : decode prog_2_method_1_code 72 = .ok (.putfield 49, 3) := by decide +kernel
theorem dd_Desk_init_75 : decode prog_2_method_1_code 75 = .ok (.aload_n 0, 1) := by decide +kernel
theorem dd_Desk_init_76 : decode prog_2_method_1_code 76 = .ok (.iconst (-1), 1) := by decide +kernel
theorem dd_Desk_init_77 : decode prog_2_method_1_code 77 = .ok (.putfield 53, 3) := by decide +kernel
theorem dd_Desk_init_80 : decode prog_2_method_1_code 80 = .ok (.return_, 1) := by decide +kernel
def jx_Desk_init (p0 : Option Nat) : sf_M (Unit) :=
  sf_bnd (sf_rc 1 p0 (sf_ret ())) fun _ =>
  sf_bnd (sf_new 4 14) fun x1 =>
  sf_bnd (sf_rc 4 x1 (jx_Office_init x1)) fun _ =>
  sf_bnd (sf_pR 1 0 p0 x1) fun _ =>
  sf_bnd (sf_new 10 5) fun x3 =>
  sf_bnd (sf_rc 10 x3 (jx_Ways_init x3)) fun _ =>
  sf_bnd (sf_pR 1 1 p0 x3) fun _ =>
  sf_bnd (sf_new 2 4) fun x5 =>
  sf_bnd (sf_rc 2 x5 (jx_Log_init x5)) fun _ =>
  sf_bnd (sf_pR 1 2 p0 x5) fun _ =>
  sf_bnd (sf_new 2 4) fun x7 =>
  sf_bnd (sf_rc 2 x7 (jx_Log_init x7)) fun _ =>
  sf_bnd (sf_pR 1 3 p0 x7) fun _ =>
  sf_bnd (sf_new 5 4) fun x9 =>
  sf_bnd (sf_rc 5 x9 (jx_Pocket_init x9)) fun _ =>
  sf_bnd (sf_pR 1 4 p0 x9) fun _ =>
  sf_bnd (sf_new 3 2) fun x11 =>
  sf_bnd (sf_rc 3 x11 (jx_Machine_init x11)) fun _ =>
  sf_bnd (sf_pR 1 5 p0 x11) fun _ =>
  sf_bnd (sf_pI 1 6 p0 (0 : Int32)) fun _ =>
  sf_bnd (sf_pI 1 7 p0 (-1 : Int32)) fun _ =>
  sf_ret ()
set_option maxRecDepth 20000 in
set_option maxHeartbeats 4000000 in
theorem ok_Desk_init (p0 : Option Nat) : sf_Ok ({ cls := "SplitFares$Desk", name := "<init>", desc := "()V" } : Jvm.MethodName) prog_2_method_1_code 1 none 3 [sf_rv p0] (jx_Desk_init p0) (fun _ => none) := by
  refine sf_Ok.of (env := [some (sf_rv p0)]) (plainFor_of_name (by decide)) [false] (fun G => ⟨pk_r, trivial⟩) (Nat.le_of_ble_eq_true rfl) rfl (fun X => ?_)
  unfold jx_Desk_init
  refine fp_aload_n (i := 0) (r := p0) dd_Desk_init_0 rfl rfl (fr_pc (pc' := 1) rfl ?_)
  refine fr_obj (ci := 1) (by decide) sw_34 sw_27 sw_28 (Nat.le_of_ble_eq_true rfl) (Nat.le_of_ble_eq_true rfl) dd_Desk_init_1 (fr_pc (pc' := 4) rfl ?_)
  refine fp_aload_n (i := 0) (r := p0) dd_Desk_init_4 rfl rfl (fr_pc (pc' := 5) rfl ?_)
  refine fr_new cl_4 sw_35 sw_36 sw_3 dd_Desk_init_5 (fun x1 => fr_pc (pc' := 8) rfl ?_)
  refine fp_dup_r dd_Desk_init_8 (fr_pc (pc' := 9) rfl ?_)
  refine fr_callIN (stk := [sf_rv x1, sf_rv p0]) (As := []) (ci := 4) (by decide) rfl (ok_Office_init x1) mt_Office_init rfl rfl sn_37 sw_38 (by decide) (Nat.le_of_ble_eq_true rfl) dd_Desk_init_9 (fun u2 => fr_to (pc' := 12) (env' := [some (sf_rv p0)]) (stk' := [sf_rv x1, sf_rv p0]) rfl rfl rfl ?_)
  refine fr_pRg cl_1 0 (by decide) rfl sw_191 (Or.inr ⟨rfl, rfl, rfl⟩) (Or.inl ⟨_, rfl⟩) dd_Desk_init_12 (fr_pc (pc' := 15) rfl ?_)
  refine fp_aload_n (i := 0) (r := p0) dd_Desk_init_15 rfl rfl (fr_pc (pc' := 16) rfl ?_)
  refine fr_new cl_10 sw_142 sw_143 sw_6 dd_Desk_init_16 (fun x3 => fr_pc (pc' := 19) rfl ?_)
  refine fp_dup_r dd_Desk_init_19 (fr_pc (pc' := 20) rfl ?_)
  refine fr_callIN (stk := [sf_rv x3, sf_rv p0]) (As := []) (ci := 10) (by decide) rfl (ok_Ways_init x3) mt_Ways_init rfl rfl sn_144 sw_145 (by decide) (Nat.le_of_ble_eq_true rfl) dd_Desk_init_20 (fun u4 => fr_to (pc' := 23) (env' := [some (sf_rv p0)]) (stk' := [sf_rv x3, sf_rv p0]) rfl rfl rfl ?_)
  refine fr_pRg cl_1 1 (by decide) rfl sw_193 (Or.inr ⟨rfl, rfl, rfl⟩) (Or.inl ⟨_, rfl⟩) dd_Desk_init_23 (fr_pc (pc' := 26) rfl ?_)
  refine fp_aload_n (i := 0) (r := p0) dd_Desk_init_26 rfl rfl (fr_pc (pc' := 27) rfl ?_)
  refine fr_new cl_2 sw_164 sw_165 sw_7 dd_Desk_init_27 (fun x5 => fr_pc (pc' := 30) rfl ?_)
  refine fp_dup_r dd_Desk_init_30 (fr_pc (pc' := 31) rfl ?_)
  refine fr_callI (stk := [sf_rv x5, sf_rv p0]) (As := []) (ci := 2) (by decide) rfl (ok_Log_init x5) mt_Log_init rfl rfl sw_166 sw_167 (by decide) (Nat.le_of_ble_eq_true rfl) dd_Desk_init_31 (fun u6 => fr_to (pc' := 34) (env' := [some (sf_rv p0)]) (stk' := [sf_rv x5, sf_rv p0]) rfl rfl rfl ?_)
  refine fr_pRg cl_1 2 (by decide) rfl sw_195 (Or.inr ⟨rfl, rfl, rfl⟩) (Or.inl ⟨_, rfl⟩) dd_Desk_init_34 (fr_pc (pc' := 37) rfl ?_)
  refine fp_aload_n (i := 0) (r := p0) dd_Desk_init_37 rfl rfl (fr_pc (pc' := 38) rfl ?_)
  refine fr_new cl_2 sw_164 sw_165 sw_7 dd_Desk_init_38 (fun x7 => fr_pc (pc' := 41) rfl ?_)
  refine fp_dup_r dd_Desk_init_41 (fr_pc (pc' := 42) rfl ?_)
  refine fr_callI (stk := [sf_rv x7, sf_rv p0]) (As := []) (ci := 2) (by decide) rfl (ok_Log_init x7) mt_Log_init rfl rfl sw_166 sw_167 (by decide) (Nat.le_of_ble_eq_true rfl) dd_Desk_init_42 (fun u8 => fr_to (pc' := 45) (env' := [some (sf_rv p0)]) (stk' := [sf_rv x7, sf_rv p0]) rfl rfl rfl ?_)
  refine fr_pRg cl_1 3 (by decide) rfl sw_197 (Or.inr ⟨rfl, rfl, rfl⟩) (Or.inl ⟨_, rfl⟩) dd_Desk_init_45 (fr_pc (pc' := 48) rfl ?_)
  refine fp_aload_n (i := 0) (r := p0) dd_Desk_init_48 rfl rfl (fr_pc (pc' := 49) rfl ?_)
  refine fr_new cl_5 sw_187 sw_42 sw_4 dd_Desk_init_49 (fun x9 => fr_pc (pc' := 52) rfl ?_)
  refine fp_dup_r dd_Desk_init_52 (fr_pc (pc' := 53) rfl ?_)
  refine fr_callIN (stk := [sf_rv x9, sf_rv p0]) (As := []) (ci := 5) (by decide) rfl (ok_Pocket_init x9) mt_Pocket_init rfl rfl sn_188 sw_44 (by decide) (Nat.le_of_ble_eq_true rfl) dd_Desk_init_53 (fun u10 => fr_to (pc' := 56) (env' := [some (sf_rv p0)]) (stk' := [sf_rv x9, sf_rv p0]) rfl rfl rfl ?_)
  refine fr_pRg cl_1 4 (by decide) rfl sw_198 (Or.inr ⟨rfl, rfl, rfl⟩) (Or.inl ⟨_, rfl⟩) dd_Desk_init_56 (fr_pc (pc' := 59) rfl ?_)
  refine fp_aload_n (i := 0) (r := p0) dd_Desk_init_59 rfl rfl (fr_pc (pc' := 60) rfl ?_)
  refine fr_new cl_3 sw_189 sw_71 sw_5 dd_Desk_init_60 (fun x11 => fr_pc (pc' := 63) rfl ?_)
  refine fp_dup_r dd_Desk_init_63 (fr_pc (pc' := 64) rfl ?_)
  refine fr_callIN (stk := [sf_rv x11, sf_rv p0]) (As := []) (ci := 3) (by decide) rfl (ok_Machine_init x11) mt_Machine_init rfl rfl sn_190 sw_73 (by decide) (Nat.le_of_ble_eq_true rfl) dd_Desk_init_64 (fun u12 => fr_to (pc' := 67) (env' := [some (sf_rv p0)]) (stk' := [sf_rv x11, sf_rv p0]) rfl rfl rfl ?_)
  refine fr_pRg cl_1 5 (by decide) rfl sw_199 (Or.inr ⟨rfl, rfl, rfl⟩) (Or.inl ⟨_, rfl⟩) dd_Desk_init_67 (fr_pc (pc' := 70) rfl ?_)
  refine fp_aload_n (i := 0) (r := p0) dd_Desk_init_70 rfl rfl (fr_pc (pc' := 71) rfl ?_)
  refine fp_iconst (v := (0 : Int32)) dd_Desk_init_71 (by decide) (fr_pc (pc' := 72) rfl ?_)
  refine fr_pI cl_1 6 (by decide) rfl sw_200 rfl ⟨rfl, rfl⟩ dd_Desk_init_72 (fr_pc (pc' := 75) rfl ?_)
  refine fp_aload_n (i := 0) (r := p0) dd_Desk_init_75 rfl rfl (fr_pc (pc' := 76) rfl ?_)
  refine fp_iconst (v := (-1 : Int32)) dd_Desk_init_76 (by decide) (fr_pc (pc' := 77) rfl ?_)
  refine fr_pI cl_1 7 (by decide) rfl sw_202 rfl ⟨rfl, rfl⟩ dd_Desk_init_77 (fr_pc (pc' := 80) rfl ?_)
  exact fr_vret rfl rfl dd_Desk_init_80
theorem mt_Desk_begin : sf_Mt ({ cls := "SplitFares$Desk", name := "begin", desc := "()V" } : Jvm.MethodName) prog_2_method_6_code 1 none 0 := ⟨sw_745, sw_2, ⟨by decide, by decide, by decide +kernel⟩, by decide⟩
theorem dd_Desk_begin_0 : decode prog_2_method_6_code 0 = .ok (.aload_n 0, 1) := by decide +kernel
theorem dd_Desk_begin_1 : decode prog_2_method_6_code 1 = .ok (.getfield 38, 3) := by decide +kernel
theorem dd_Desk_begin_4 : decode prog_2_method_6_code 4 = .ok (.aload_n 0, 1) := by decide +kernel
theorem dd_Desk_begin_5 : decode prog_2_method_6_code 5 = .ok (.getfield 12, 3) := by decide +kernel
theorem dd_Desk_begin_8 : decode prog_2_method_6_code 8 = .ok (.getfield 60, 3) := by decide +kernel
theorem dd_Desk_begin_11 : decode prog_2_method_6_code 11 = .ok (.invokevirtual 118, 3) := by decide +kernel
theorem dd_Desk_begin_14 : decode prog_2_method_6_code 14 = .ok (.aload_n 0, 1) := by decide +kernel
theorem dd_Desk_begin_15 : decode prog_2_method_6_code 15 = .ok (.getfield 32, 3) := by decide +kernel
theorem dd_Desk_begin_18 : decode prog_2_method_6_code 18 = .ok (.aload_n 0, 1) := by decide +kernel
theorem dd_Desk_begin_19 : decode prog_2_method_6_code 19 = .ok (.getfield 28, 3) := by decide +kernel
theorem dd_Desk_begin_22 : decode prog_2_method_6_code 22 = .ok (.invokevirtual 122, 3) := by decide +kernel
theorem dd_Desk_begin_25 : decode prog_2_method_6_code 25 = .ok (.aload_n 0, 1) := by decide +kernel
theorem dd_Desk_begin_26 : decode prog_2_method_6_code 26 = .ok (.iconst 0, 1) := by decide +kernel
theorem dd_Desk_begin_27 : decode prog_2_method_6_code 27 = .ok (.putfield 49, 3) := by decide +kernel
theorem dd_Desk_begin_30 : decode prog_2_method_6_code 30 = .ok (.aload_n 0, 1) := by decide +kernel
theorem dd_Desk_begin_31 : decode prog_2_method_6_code 31 = .ok (.iconst (-1), 1) := by decide +kernel
theorem dd_Desk_begin_32 : decode prog_2_method_6_code 32 = .ok (.putfield 53, 3) := by decide +kernel
theorem dd_Desk_begin_35 : decode prog_2_method_6_code 35 = .ok (.return_, 1) := by decide +kernel
def jx_Desk_begin (p0 : Option Nat) : sf_M (Unit) :=
  sf_bnd (sf_gR 1 4 p0) fun x1 =>
  sf_bnd (sf_gR 1 0 p0) fun x2 =>
  sf_bnd (sf_gR 4 0 x2) fun x3 =>
  sf_bnd (sf_rc 5 x1 (jx_Pocket_copyFrom x1 x3)) fun _ =>
  sf_bnd (sf_gR 1 3 p0) fun x5 =>
  sf_bnd (sf_gR 1 2 p0) fun x6 =>
  sf_bnd (sf_rc 2 x5 (jx_Log_copyFrom x5 x6)) fun _ =>
  sf_bnd (sf_pI 1 6 p0 (0 : Int32)) fun _ =>
  sf_bnd (sf_pI 1 7 p0 (-1 : Int32)) fun _ =>
  sf_ret ()
set_option maxRecDepth 20000 in
set_option maxHeartbeats 4000000 in
theorem ok_Desk_begin (p0 : Option Nat) : sf_Ok ({ cls := "SplitFares$Desk", name := "begin", desc := "()V" } : Jvm.MethodName) prog_2_method_6_code 1 none 3 [sf_rv p0] (jx_Desk_begin p0) (fun _ => none) := by
  refine sf_Ok.of (env := [some (sf_rv p0)]) (plainFor_of_name (by decide)) [false] (fun G => ⟨pk_r, trivial⟩) (Nat.le_of_ble_eq_true rfl) rfl (fun X => ?_)
  unfold jx_Desk_begin
  refine fp_aload_n (i := 0) (r := p0) dd_Desk_begin_0 rfl rfl (fr_pc (pc' := 1) rfl ?_)
  refine fr_gR cl_1 4 (by decide) rfl sw_198 dd_Desk_begin_1 (fun x1 => fr_pc (pc' := 4) rfl ?_)
  refine fp_aload_n (i := 0) (r := p0) dd_Desk_begin_4 rfl rfl (fr_pc (pc' := 5) rfl ?_)
  refine fr_gR cl_1 0 (by decide) rfl sw_191 dd_Desk_begin_5 (fun x2 => fr_pc (pc' := 8) rfl ?_)
  refine fr_gR cl_4 0 (by decide) rfl sw_86 dd_Desk_begin_8 (fun x3 => fr_pc (pc' := 11) rfl ?_)
  refine fr_callV (stk := []) (As := [sf_rv x3]) cl_5 (ok_Pocket_copyFrom x1 x3) mt_Pocket_copyFrom rfl rfl sw_746 sw_747 sw_748 (by decide) (Nat.le_of_ble_eq_true rfl) dd_Desk_begin_11 (fun u4 => fr_to (pc' := 14) (env' := [some (sf_rv p0)]) (stk' := []) rfl rfl rfl ?_)
  refine fp_aload_n (i := 0) (r := p0) dd_Desk_begin_14 rfl rfl (fr_pc (pc' := 15) rfl ?_)
  refine fr_gR cl_1 3 (by decide) rfl sw_197 dd_Desk_begin_15 (fun x5 => fr_pc (pc' := 18) rfl ?_)
  refine fp_aload_n (i := 0) (r := p0) dd_Desk_begin_18 rfl rfl (fr_pc (pc' := 19) rfl ?_)
  refine fr_gR cl_1 2 (by decide) rfl sw_195 dd_Desk_begin_19 (fun x6 => fr_pc (pc' := 22) rfl ?_)
  refine fr_callV (stk := []) (As := [sf_rv x6]) cl_2 (ok_Log_copyFrom x5 x6) mt_Log_copyFrom rfl rfl sw_751 sw_752 sw_753 (by decide) (Nat.le_of_ble_eq_true rfl) dd_Desk_begin_22 (fun u7 => fr_to (pc' := 25) (env' := [some (sf_rv p0)]) (stk' := []) rfl rfl rfl ?_)
  refine fp_aload_n (i := 0) (r := p0) dd_Desk_begin_25 rfl rfl (fr_pc (pc' := 26) rfl ?_)
  refine fp_iconst (v := (0 : Int32)) dd_Desk_begin_26 (by decide) (fr_pc (pc' := 27) rfl ?_)
  refine fr_pI cl_1 6 (by decide) rfl sw_200 rfl ⟨rfl, rfl⟩ dd_Desk_begin_27 (fr_pc (pc' := 30) rfl ?_)
  refine fp_aload_n (i := 0) (r := p0) dd_Desk_begin_30 rfl rfl (fr_pc (pc' := 31) rfl ?_)
  refine fp_iconst (v := (-1 : Int32)) dd_Desk_begin_31 (by decide) (fr_pc (pc' := 32) rfl ?_)
  refine fr_pI cl_1 7 (by decide) rfl sw_202 rfl ⟨rfl, rfl⟩ dd_Desk_begin_32 (fr_pc (pc' := 35) rfl ?_)
  exact fr_vret rfl rfl dd_Desk_begin_35
theorem mt_Desk_tellWords : sf_Mt ({ cls := "SplitFares$Desk", name := "tellWords", desc := "()V" } : Jvm.MethodName) prog_2_method_9_code 3 none 0 := ⟨sw_764, sw_2, ⟨by decide, by decide, by decide +kernel⟩, by decide⟩
theorem dd_Desk_tellWords_0 : decode prog_2_method_9_code 0 = .ok (.aload_n 0, 1) := by decide +kernel
theorem dd_Desk_tellWords_1 : decode prog_2_method_9_code 1 = .ok (.getfield 45, 3) := by decide +kernel
theorem dd_Desk_tellWords_4 : decode prog_2_method_9_code 4 = .ok (.getfield 151, 3) := by decide +kernel
theorem dd_Desk_tellWords_7 : decode prog_2_method_9_code 7 = .ok (.astore_n 1, 1) := by decide +kernel
theorem dd_Desk_tellWords_8 : decode prog_2_method_9_code 8 = .ok (.aload_n 1, 1) := by decide +kernel
theorem dd_Desk_tellWords_9 : decode prog_2_method_9_code 9 = .ok (.iconst 0, 1) := by decide +kernel
theorem dd_Desk_tellWords_10 : decode prog_2_method_9_code 10 = .ok (.aload_n 0, 1) := by decide +kernel
theorem dd_Desk_tellWords_11 : decode prog_2_method_9_code 11 = .ok (.getfield 12, 3) := by decide +kernel
theorem dd_Desk_tellWords_14 : decode prog_2_method_9_code 14 = .ok (.getfield 60, 3) := by decide +kernel
theorem dd_Desk_tellWords_17 : decode prog_2_method_9_code 17 = .ok (.getfield 111, 3) := by decide +kernel
theorem dd_Desk_tellWords_20 : decode prog_2_method_9_code 20 = .ok (.iastore, 1) := by decide +kernel
theorem dd_Desk_tellWords_21 : decode prog_2_method_9_code 21 = .ok (.aload_n 1, 1) := by decide +kernel
theorem dd_Desk_tellWords_22 : decode prog_2_method_9_code 22 = .ok (.iconst 1, 1) := by decide +kernel
theorem dd_Desk_tellWords_23 : decode prog_2_method_9_code 23 = .ok (.aload_n 0, 1) := by decide +kernel
theorem dd_Desk_tellWords_24 : decode prog_2_method_9_code 24 = .ok (.getfield 49, 3) := by decide +kernel
theorem dd_Desk_tellWords_27 : decode prog_2_method_9_code 27 = .ok (.iastore, 1) := by decide +kernel
theorem dd_Desk_tellWords_28 : decode prog_2_method_9_code 28 = .ok (.aload_n 1, 1) := by decide +kernel
theorem dd_Desk_tellWords_29 : decode prog_2_method_9_code 29 = .ok (.iconst 2, 1) := by decide +kernel
theorem dd_Desk_tellWords_30 : decode prog_2_method_9_code 30 = .ok (.aload_n 0, 1) := by decide +kernel
theorem dd_Desk_tellWords_31 : decode prog_2_method_9_code 31 = .ok (.getfield 53, 3) := by decide +kernel
theorem dd_Desk_tellWords_34 : decode prog_2_method_9_code 34 = .ok (.iastore, 1) := by decide +kernel
theorem dd_Desk_tellWords_35 : decode prog_2_method_9_code 35 = .ok (.aload_n 1, 1) := by decide +kernel
theorem dd_Desk_tellWords_36 : decode prog_2_method_9_code 36 = .ok (.iconst 3, 1) := by decide +kernel
theorem dd_Desk_tellWords_37 : decode prog_2_method_9_code 37 = .ok (.aload_n 0, 1) := by decide +kernel
theorem dd_Desk_tellWords_38 : decode prog_2_method_9_code 38 = .ok (.getfield 12, 3) := by decide +kernel
theorem dd_Desk_tellWords_41 : decode prog_2_method_9_code 41 = .ok (.getfield 60, 3) := by decide +kernel
theorem dd_Desk_tellWords_44 : decode prog_2_method_9_code 44 = .ok (.getfield 92, 3) := by decide +kernel
theorem dd_Desk_tellWords_47 : decode prog_2_method_9_code 47 = .ok (.iastore, 1) := by decide +kernel
theorem dd_Desk_tellWords_48 : decode prog_2_method_9_code 48 = .ok (.aload_n 1, 1) := by decide +kernel
theorem dd_Desk_tellWords_49 : decode prog_2_method_9_code 49 = .ok (.iconst 4, 1) := by decide +kernel
theorem dd_Desk_tellWords_50 : decode prog_2_method_9_code 50 = .ok (.aload_n 0, 1) := by decide +kernel
theorem dd_Desk_tellWords_51 : decode prog_2_method_9_code 51 = .ok (.getfield 12, 3) := by decide +kernel
theorem dd_Desk_tellWords_54 : decode prog_2_method_9_code 54 = .ok (.getfield 60, 3) := by decide +kernel
theorem dd_Desk_tellWords_57 : decode prog_2_method_9_code 57 = .ok (.getfield 67, 3) := by decide +kernel
theorem dd_Desk_tellWords_60 : decode prog_2_method_9_code 60 = .ok (.iastore, 1) := by decide +kernel
theorem dd_Desk_tellWords_61 : decode prog_2_method_9_code 61 = .ok (.aload_n 1, 1) := by decide +kernel
theorem dd_Desk_tellWords_62 : decode prog_2_method_9_code 62 = .ok (.iconst 5, 1) := by decide +kernel
theorem dd_Desk_tellWords_63 : decode prog_2_method_9_code 63 = .ok (.aload_n 0, 1) := by decide +kernel
theorem dd_Desk_tellWords_64 : decode prog_2_method_9_code 64 = .ok (.getfield 12, 3) := by decide +kernel
theorem dd_Desk_tellWords_67 : decode prog_2_method_9_code 67 = .ok (.getfield 60, 3) := by decide +kernel
theorem dd_Desk_tellWords_70 : decode prog_2_method_9_code 70 = .ok (.invokevirtual 155, 3) := by decide +kernel
theorem dd_Desk_tellWords_73 : decode prog_2_method_9_code 73 = .ok (.iastore, 1) := by decide +kernel
theorem dd_Desk_tellWords_74 : decode prog_2_method_9_code 74 = .ok (.iconst 0, 1) := by decide +kernel
theorem dd_Desk_tellWords_75 : decode prog_2_method_9_code 75 = .ok (.istore_n 2, 1) := by decide +kernel
theorem dd_Desk_tellWords_76 : decode prog_2_method_9_code 76 = .ok (.iload_n 2, 1) := by decide +kernel
theorem dd_Desk_tellWords_77 : decode prog_2_method_9_code 77 = .ok (.bipush 6, 2) := by decide +kernel
theorem dd_Desk_tellWords_79 : decode prog_2_method_9_code 79 = .ok (.if_icmp .ge 42, 3) := by decide +kernel
theorem dd_Desk_tellWords_82 : decode prog_2_method_9_code 82 = .ok (.aload_n 1, 1) := by decide +kernel
theorem dd_Desk_tellWords_83 : decode prog_2_method_9_code 83 = .ok (.bipush 6, 2) := by decide +kernel
theorem dd_Desk_tellWords_85 : decode prog_2_method_9_code 85 = .ok (.iload_n 2, 1) := by decide +kernel
theorem dd_Desk_tellWords_86 : decode prog_2_method_9_code 86 = .ok (.iadd, 1) := by decide +kernel
theorem dd_Desk_tellWords_87 : decode prog_2_method_9_code 87 = .ok (.aload_n 0, 1) := by decide +kernel
theorem dd_Desk_tellWords_88 : decode prog_2_method_9_code 88 = .ok (.getfield 12, 3) := by decide +kernel
theorem dd_Desk_tellWords_91 : decode prog_2_method_9_code 91 = .ok (.iload_n 2, 1) := by decide +kernel
theorem dd_Desk_tellWords_92 : decode prog_2_method_9_code 92 = .ok (.invokevirtual 85, 3) := by decide +kernel
theorem dd_Desk_tellWords_95 : decode prog_2_method_9_code 95 = .ok (.ifCond .eq 18, 3) := by decide +kernel
theorem dd_Desk_tellWords_98 : decode prog_2_method_9_code 98 = .ok (.aload_n 0, 1) := by decide +kernel
theorem dd_Desk_tellWords_99 : decode prog_2_method_9_code 99 = .ok (.getfield 12, 3) := by decide +kernel
theorem dd_Desk_tellWords_102 : decode prog_2_method_9_code 102 = .ok (.getfield 158, 3) := by decide +kernel
theorem dd_Desk_tellWords_105 : decode prog_2_method_9_code 105 = .ok (.iload_n 2, 1) := by decide +kernel
theorem dd_Desk_tellWords_106 : decode prog_2_method_9_code 106 = .ok (.iaload, 1) := by decide +kernel
theorem dd_Desk_tellWords_107 : decode prog_2_method_9_code 107 = .ok (.invokestatic 161, 3) := by decide +kernel
theorem dd_Desk_tellWords_110 : decode prog_2_method_9_code 110 = .ok (.goto 4, 3) := by decide +kernel
theorem dd_Desk_tellWords_113 : decode prog_2_method_9_code 113 = .ok (.iconst (-1), 1) := by decide +kernel
theorem dd_Desk_tellWords_114 : decode prog_2_method_9_code 114 = .ok (.iastore, 1) := by decide +kernel
theorem dd_Desk_tellWords_115 : decode prog_2_method_9_code 115 = .ok (.iinc 2 1, 3) := by decide +kernel
theorem dd_Desk_tellWords_118 : decode prog_2_method_9_code 118 = .ok (.goto (-42), 3) := by decide +kernel
theorem dd_Desk_tellWords_121 : decode prog_2_method_9_code 121 = .ok (.return_, 1) := by decide +kernel
def jx_Desk_tellWords (p0 : Option Nat) : sf_M (Unit) :=
  sf_bnd (sf_gR 1 5 p0) fun x1 =>
  sf_bnd (sf_gR 3 0 x1) fun x2 =>
  sf_bnd (sf_gR 1 0 p0) fun x3 =>
  sf_bnd (sf_gR 4 0 x3) fun x4 =>
  sf_bnd (sf_gI 5 3 x4) fun x5 =>
  sf_bnd (sf_sI 0 x2 (0 : Int32) x5) fun _ =>
  sf_bnd (sf_gI 1 6 p0) fun x6 =>
  sf_bnd (sf_sI 0 x2 (1 : Int32) x6) fun _ =>
  sf_bnd (sf_gI 1 7 p0) fun x7 =>
  sf_bnd (sf_sI 0 x2 (2 : Int32) x7) fun _ =>
  sf_bnd (sf_gR 1 0 p0) fun x8 =>
  sf_bnd (sf_gR 4 0 x8) fun x9 =>
  sf_bnd (sf_gI 5 2 x9) fun x10 =>
  sf_bnd (sf_sI 0 x2 (3 : Int32) x10) fun _ =>
  sf_bnd (sf_gR 1 0 p0) fun x11 =>
  sf_bnd (sf_gR 4 0 x11) fun x12 =>
  sf_bnd (sf_gI 5 1 x12) fun x13 =>
  sf_bnd (sf_sI 0 x2 (4 : Int32) x13) fun _ =>
  sf_bnd (sf_gR 1 0 p0) fun x14 =>
  sf_bnd (sf_gR 4 0 x14) fun x15 =>
  sf_bnd (sf_rc 5 x15 (jx_Pocket_heldInAll x15)) fun x16 =>
  sf_bnd (sf_sI 0 x2 (5 : Int32) x16) fun _ =>
  sf_bnd (sf_loop (β := (Int32)) (γ := (Unit)) (fun b17 =>
  if (6 : Int32) ≤ b17 then (
  sf_ret (.inr ())
  ) else (
  sf_bnd (sf_gR 1 0 p0) fun x19 =>
  sf_bnd (sf_rc 4 x19 (jx_Office_hasTrain x19 b17)) fun x20 =>
  sf_bnd (α := (Int32)) (
  if x20 = 0 then (
  sf_ret (-1 : Int32)
  ) else (
  sf_bnd (sf_gR 1 0 p0) fun x22 =>
  sf_bnd (sf_gR 4 2 x22) fun x23 =>
  sf_bnd (sf_aI 0 x23 b17) fun x24 =>
  sf_bnd (jx_Integer_bitCount x24) fun x25 =>
  sf_ret x25
  )
  ) (fun v26 =>
  sf_bnd (sf_sI 0 x2 ((6 : Int32) + b17) v26) fun _ =>
  sf_bnd (sf_ret (b17 + (1 : Int32))) fun y27 =>
  sf_ret (.inl y27)
  )
  )
  ) sf_fuel (0 : Int32)) (fun e28 =>
  sf_ret ()
  )
set_option maxRecDepth 20000 in
set_option maxHeartbeats 4000000 in
theorem ok_Desk_tellWords (p0 : Option Nat) : sf_Ok ({ cls := "SplitFares$Desk", name := "tellWords", desc := "()V" } : Jvm.MethodName) prog_2_method_9_code 3 none 1 [sf_rv p0] (jx_Desk_tellWords p0) (fun _ => none) := by
  refine sf_Ok.of (env := [some (sf_rv p0), none, none]) (plainFor_of_name (by decide)) [false] (fun G => ⟨pk_r, trivial⟩) (Nat.le_of_ble_eq_true rfl) rfl (fun X => ?_)
  unfold jx_Desk_tellWords
  refine fp_aload_n (i := 0) (r := p0) dd_Desk_tellWords_0 rfl rfl (fr_pc (pc' := 1) rfl ?_)
  refine fr_gR cl_1 5 (by decide) rfl sw_199 dd_Desk_tellWords_1 (fun x1 => fr_pc (pc' := 4) rfl ?_)
  refine fr_gR cl_3 0 (by decide) rfl sw_77 dd_Desk_tellWords_4 (fun x2 => fr_pc (pc' := 7) rfl ?_)
  refine fp_astore_n (i := 1) dd_Desk_tellWords_7 rfl (Nat.le_of_ble_eq_true rfl) (fun _ => c1_r rfl) (fr_to (pc' := 8) (env' := [some (sf_rv p0), some (sf_rv x2), none]) (stk' := []) rfl rfl rfl ?_)
  refine fp_aload_n (i := 1) (r := x2) dd_Desk_tellWords_8 rfl rfl (fr_pc (pc' := 9) rfl ?_)
  refine fp_iconst (v := (0 : Int32)) dd_Desk_tellWords_9 (by decide) (fr_pc (pc' := 10) rfl ?_)
  refine fp_aload_n (i := 0) (r := p0) dd_Desk_tellWords_10 rfl rfl (fr_pc (pc' := 11) rfl ?_)
  refine fr_gR cl_1 0 (by decide) rfl sw_191 dd_Desk_tellWords_11 (fun x3 => fr_pc (pc' := 14) rfl ?_)
  refine fr_gR cl_4 0 (by decide) rfl sw_86 dd_Desk_tellWords_14 (fun x4 => fr_pc (pc' := 17) rfl ?_)
  refine fr_gI cl_5 3 (by decide) rfl sw_55 dd_Desk_tellWords_17 (fun x5 => fr_pc (pc' := 20) rfl ?_)
  refine fr_sI0 dd_Desk_tellWords_20 (fr_pc (pc' := 21) rfl ?_)
  refine fp_aload_n (i := 1) (r := x2) dd_Desk_tellWords_21 rfl rfl (fr_pc (pc' := 22) rfl ?_)
  refine fp_iconst (v := (1 : Int32)) dd_Desk_tellWords_22 (by decide) (fr_pc (pc' := 23) rfl ?_)
  refine fp_aload_n (i := 0) (r := p0) dd_Desk_tellWords_23 rfl rfl (fr_pc (pc' := 24) rfl ?_)
  refine fr_gI cl_1 6 (by decide) rfl sw_200 dd_Desk_tellWords_24 (fun x6 => fr_pc (pc' := 27) rfl ?_)
  refine fr_sI0 dd_Desk_tellWords_27 (fr_pc (pc' := 28) rfl ?_)
  refine fp_aload_n (i := 1) (r := x2) dd_Desk_tellWords_28 rfl rfl (fr_pc (pc' := 29) rfl ?_)
  refine fp_iconst (v := (2 : Int32)) dd_Desk_tellWords_29 (by decide) (fr_pc (pc' := 30) rfl ?_)
  refine fp_aload_n (i := 0) (r := p0) dd_Desk_tellWords_30 rfl rfl (fr_pc (pc' := 31) rfl ?_)
  refine fr_gI cl_1 7 (by decide) rfl sw_202 dd_Desk_tellWords_31 (fun x7 => fr_pc (pc' := 34) rfl ?_)
  refine fr_sI0 dd_Desk_tellWords_34 (fr_pc (pc' := 35) rfl ?_)
  refine fp_aload_n (i := 1) (r := x2) dd_Desk_tellWords_35 rfl rfl (fr_pc (pc' := 36) rfl ?_)
  refine fp_iconst (v := (3 : Int32)) dd_Desk_tellWords_36 (by decide) (fr_pc (pc' := 37) rfl ?_)
  refine fp_aload_n (i := 0) (r := p0) dd_Desk_tellWords_37 rfl rfl (fr_pc (pc' := 38) rfl ?_)
  refine fr_gR cl_1 0 (by decide) rfl sw_191 dd_Desk_tellWords_38 (fun x8 => fr_pc (pc' := 41) rfl ?_)
  refine fr_gR cl_4 0 (by decide) rfl sw_86 dd_Desk_tellWords_41 (fun x9 => fr_pc (pc' := 44) rfl ?_)
  refine fr_gI cl_5 2 (by decide) rfl sw_52 dd_Desk_tellWords_44 (fun x10 => fr_pc (pc' := 47) rfl ?_)
  refine fr_sI0 dd_Desk_tellWords_47 (fr_pc (pc' := 48) rfl ?_)
  refine fp_aload_n (i := 1) (r := x2) dd_Desk_tellWords_48 rfl rfl (fr_pc (pc' := 49) rfl ?_)
  refine fp_iconst (v := (4 : Int32)) dd_Desk_tellWords_49 (by decide) (fr_pc (pc' := 50) rfl ?_)
  refine fp_aload_n (i := 0) (r := p0) dd_Desk_tellWords_50 rfl rfl (fr_pc (pc' := 51) rfl ?_)
  refine fr_gR cl_1 0 (by decide) rfl sw_191 dd_Desk_tellWords_51 (fun x11 => fr_pc (pc' := 54) rfl ?_)
  refine fr_gR cl_4 0 (by decide) rfl sw_86 dd_Desk_tellWords_54 (fun x12 => fr_pc (pc' := 57) rfl ?_)
  refine fr_gI cl_5 1 (by decide) rfl sw_49 dd_Desk_tellWords_57 (fun x13 => fr_pc (pc' := 60) rfl ?_)
  refine fr_sI0 dd_Desk_tellWords_60 (fr_pc (pc' := 61) rfl ?_)
  refine fp_aload_n (i := 1) (r := x2) dd_Desk_tellWords_61 rfl rfl (fr_pc (pc' := 62) rfl ?_)
  refine fp_iconst (v := (5 : Int32)) dd_Desk_tellWords_62 (by decide) (fr_pc (pc' := 63) rfl ?_)
  refine fp_aload_n (i := 0) (r := p0) dd_Desk_tellWords_63 rfl rfl (fr_pc (pc' := 64) rfl ?_)
  refine fr_gR cl_1 0 (by decide) rfl sw_191 dd_Desk_tellWords_64 (fun x14 => fr_pc (pc' := 67) rfl ?_)
  refine fr_gR cl_4 0 (by decide) rfl sw_86 dd_Desk_tellWords_67 (fun x15 => fr_pc (pc' := 70) rfl ?_)
  refine fr_callV (stk := [.int (5 : Int32), sf_rv x2]) (As := []) cl_5 (ok_Pocket_heldInAll x15) mt_Pocket_heldInAll rfl rfl sw_765 sw_766 sw_767 (by decide) (Nat.le_of_ble_eq_true rfl) dd_Desk_tellWords_70 (fun x16 => fr_to (pc' := 73) (env' := [some (sf_rv p0), some (sf_rv x2), none]) (stk' := [.int x16, .int (5 : Int32), sf_rv x2]) rfl rfl rfl ?_)
  refine fr_sI0 dd_Desk_tellWords_73 (fr_pc (pc' := 74) rfl ?_)
  refine fp_iconst (v := (0 : Int32)) dd_Desk_tellWords_74 (by decide) (fr_pc (pc' := 75) rfl ?_)
  refine fp_istore_n (i := 2) dd_Desk_tellWords_75 rfl (Nat.le_of_ble_eq_true rfl) (fun _ => c1_r rfl) (fr_to (pc' := 76) (env' := [some (sf_rv p0), some (sf_rv x2), some (.int (0 : Int32))]) (stk' := []) rfl rfl rfl ?_)
  refine fr_to (pc' := 76) (env' := [some (sf_rv p0), some (sf_rv x2), some (.int (0 : Int32))]) (stk' := []) rfl rfl rfl ?_
  refine fr_bnd (l1 := (fun (e28 : (Unit)) => sf_p 121 [some (sf_rv p0), some (sf_rv x2), none] [])) (fr_loop (Lb := (fun (b17 : (Int32)) => sf_p 76 [some (sf_rv p0), some (sf_rv x2), some (.int b17)] [])) (fun b17 => ?_) _ _) (fun e28 => ?_)
  · refine fp_iload_n (i := 2) (x := b17) dd_Desk_tellWords_76 rfl rfl (fr_pc (pc' := 77) rfl ?_)
    refine fp_bipush (v := (6 : Int32)) dd_Desk_tellWords_77 (by decide) (fr_pc (pc' := 79) rfl ?_)
    refine fr_icmp_ge (tgt := 121) dd_Desk_tellWords_79 rfl (fun _ => ?_) (fun _ => ?_)
    · refine fr_wk [true, true, false] ?_
      exact fr_ret rfl
    · refine fr_pc (pc' := 82) rfl ?_
      refine fp_aload_n (i := 1) (r := x2) dd_Desk_tellWords_82 rfl rfl (fr_pc (pc' := 83) rfl ?_)
      refine fp_bipush (v := (6 : Int32)) dd_Desk_tellWords_83 (by decide) (fr_pc (pc' := 85) rfl ?_)
      refine fp_iload_n (i := 2) (x := b17) dd_Desk_tellWords_85 rfl rfl (fr_pc (pc' := 86) rfl ?_)
      refine fp_iadd dd_Desk_tellWords_86 (fr_pc (pc' := 87) rfl ?_)
      refine fp_aload_n (i := 0) (r := p0) dd_Desk_tellWords_87 rfl rfl (fr_pc (pc' := 88) rfl ?_)
      refine fr_gR cl_1 0 (by decide) rfl sw_191 dd_Desk_tellWords_88 (fun x19 => fr_pc (pc' := 91) rfl ?_)
      refine fp_iload_n (i := 2) (x := b17) dd_Desk_tellWords_91 rfl rfl (fr_pc (pc' := 92) rfl ?_)
      refine fr_callV (stk := [.int ((6 : Int32) + b17), sf_rv x2]) (As := [.int b17]) cl_4 (ok_Office_hasTrain x19 b17) mt_Office_hasTrain rfl rfl sw_769 sw_387 sw_388 (by decide) (Nat.le_of_ble_eq_true rfl) dd_Desk_tellWords_92 (fun x20 => fr_to (pc' := 95) (env' := [some (sf_rv p0), some (sf_rv x2), some (.int b17)]) (stk' := [.int x20, .int ((6 : Int32) + b17), sf_rv x2]) rfl rfl rfl ?_)
      refine fr_bnd (l1 := (fun (v26 : (Int32)) => sf_p 114 [some (sf_rv p0), some (sf_rv x2), some (.int b17)] [.int v26, .int ((6 : Int32) + b17), sf_rv x2])) ?_ (fun v26 => ?_)
      · refine fr_if_eq (tgt := 113) dd_Desk_tellWords_95 rfl (fun _ => ?_) (fun _ => ?_)
        · refine fp_iconst (v := (-1 : Int32)) dd_Desk_tellWords_113 (by decide) (fr_pc (pc' := 114) rfl ?_)
          exact fr_ret rfl
        · refine fr_pc (pc' := 98) rfl ?_
          refine fp_aload_n (i := 0) (r := p0) dd_Desk_tellWords_98 rfl rfl (fr_pc (pc' := 99) rfl ?_)
          refine fr_gR cl_1 0 (by decide) rfl sw_191 dd_Desk_tellWords_99 (fun x22 => fr_pc (pc' := 102) rfl ?_)
          refine fr_gR cl_4 2 (by decide) rfl sw_94 dd_Desk_tellWords_102 (fun x23 => fr_pc (pc' := 105) rfl ?_)
          refine fp_iload_n (i := 2) (x := b17) dd_Desk_tellWords_105 rfl rfl (fr_pc (pc' := 106) rfl ?_)
          refine fr_aI0 dd_Desk_tellWords_106 (fun x24 => fr_pc (pc' := 107) rfl ?_)
          refine fr_callS (stk := [.int ((6 : Int32) + b17), sf_rv x2]) (ok_Integer_bitCount x24) mt_Integer_bitCount rfl rfl sw_770 sw_365 (by decide) (Nat.le_of_ble_eq_true rfl) dd_Desk_tellWords_107 (fun x25 => fr_to (pc' := 110) (env' := [some (sf_rv p0), some (sf_rv x2), some (.int b17)]) (stk' := [.int x25, .int ((6 : Int32) + b17), sf_rv x2]) rfl rfl rfl ?_)
          refine fp_goto (tgt := 114) dd_Desk_tellWords_110 rfl ?_
          exact fr_ret rfl
      · refine fr_sI0 dd_Desk_tellWords_114 (fr_pc (pc' := 115) rfl ?_)
        refine fr_niinc (i := 2) (x := b17) (w := (1 : Int32)) dd_Desk_tellWords_115 rfl (by decide) (Nat.le_of_ble_eq_true rfl) (fun _ => c1_r rfl) (fun y27 => fr_to (pc' := 118) (env' := [some (sf_rv p0), some (sf_rv x2), some (.int y27)]) (stk' := []) rfl rfl rfl ?_)
        refine fp_goto (tgt := 76) dd_Desk_tellWords_118 rfl ?_
        exact fr_ret rfl
  · exact fr_vret rfl rfl dd_Desk_tellWords_121
theorem mt_Desk_buyTicket : sf_Mt ({ cls := "SplitFares$Desk", name := "buyTicket", desc := "(III)I" } : Jvm.MethodName) prog_2_method_2_code 6 (some .int) 3 := ⟨sw_776, sw_2, ⟨by decide, by decide, by decide +kernel⟩, by decide⟩
theorem dd_Desk_buyTicket_0 : decode prog_2_method_2_code 0 = .ok (.iload_n 1, 1) := by decide +kernel
theorem dd_Desk_buyTicket_1 : decode prog_2_method_2_code 1 = .ok (.iload_n 2, 1) := by decide +kernel
theorem dd_Desk_buyTicket_2 : decode prog_2_method_2_code 2 = .ok (.iload_n 3, 1) := by decide +kernel
theorem dd_Desk_buyTicket_3 : decode prog_2_method_2_code 3 = .ok (.invokestatic 56, 3) := by decide +kernel
theorem dd_Desk_buyTicket_6 : decode prog_2_method_2_code 6 = .ok (.ifCond .ne 5, 3) := by decide +kernel
theorem dd_Desk_buyTicket_9 : decode prog_2_method_2_code 9 = .ok (.iconst (-1), 1) := by decide +kernel
theorem dd_Desk_buyTicket_10 : decode prog_2_method_2_code 10 = .ok (.ireturn, 1) := by decide +kernel
theorem dd_Desk_buyTicket_11 : decode prog_2_method_2_code 11 = .ok (.aload_n 0, 1) := by decide +kernel
theorem dd_Desk_buyTicket_12 : decode prog_2_method_2_code 12 = .ok (.getfield 12, 3) := by decide +kernel
theorem dd_Desk_buyTicket_15 : decode prog_2_method_2_code 15 = .ok (.getfield 60, 3) := by decide +kernel
theorem dd_Desk_buyTicket_18 : decode prog_2_method_2_code 18 = .ok (.astore 4, 2) := by decide +kernel
theorem dd_Desk_buyTicket_20 : decode prog_2_method_2_code 20 = .ok (.aload_n 0, 1) := by decide +kernel
theorem dd_Desk_buyTicket_21 : decode prog_2_method_2_code 21 = .ok (.getfield 12, 3) := by decide +kernel
theorem dd_Desk_buyTicket_24 : decode prog_2_method_2_code 24 = .ok (.iload_n 1, 1) := by decide +kernel
theorem dd_Desk_buyTicket_25 : decode prog_2_method_2_code 25 = .ok (.iload_n 2, 1) := by decide +kernel
theorem dd_Desk_buyTicket_26 : decode prog_2_method_2_code 26 = .ok (.iload_n 3, 1) := by decide +kernel
theorem dd_Desk_buyTicket_27 : decode prog_2_method_2_code 27 = .ok (.invokevirtual 63, 3) := by decide +kernel
theorem dd_Desk_buyTicket_30 : decode prog_2_method_2_code 30 = .ok (.istore 5, 2) := by decide +kernel
theorem dd_Desk_buyTicket_32 : decode prog_2_method_2_code 32 = .ok (.iload 5, 2) := by decide +kernel
theorem dd_Desk_buyTicket_34 : decode prog_2_method_2_code 34 = .ok (.aload 4, 2) := by decide +kernel
theorem dd_Desk_buyTicket_36 : decode prog_2_method_2_code 36 = .ok (.getfield 67, 3) := by decide +kernel
theorem dd_Desk_buyTicket_39 : decode prog_2_method_2_code 39 = .ok (.if_icmp .gt 16, 3) := by decide +kernel
theorem dd_Desk_buyTicket_42 : decode prog_2_method_2_code 42 = .ok (.aload 4, 2) := by decide +kernel
theorem dd_Desk_buyTicket_44 : decode prog_2_method_2_code 44 = .ok (.iload_n 1, 1) := by decide +kernel
theorem dd_Desk_buyTicket_45 : decode prog_2_method_2_code 45 = .ok (.iload_n 2, 1) := by decide +kernel
theorem dd_Desk_buyTicket_46 : decode prog_2_method_2_code 46 = .ok (.iload_n 3, 1) := by decide +kernel
theorem dd_Desk_buyTicket_47 : decode prog_2_method_2_code 47 = .ok (.invokevirtual 70, 3) := by decide +kernel
theorem dd_Desk_buyTicket_50 : decode prog_2_method_2_code 50 = .ok (.bipush 9, 2) := by decide +kernel
theorem dd_Desk_buyTicket_52 : decode prog_2_method_2_code 52 = .ok (.if_icmp .lt 6, 3) := by decide +kernel
theorem dd_Desk_buyTicket_58 : decode prog_2_method_2_code 58 = .ok (.aload_n 0, 1) := by decide +kernel
theorem dd_Desk_buyTicket_59 : decode prog_2_method_2_code 59 = .ok (.getfield 28, 3) := by decide +kernel
theorem dd_Desk_buyTicket_62 : decode prog_2_method_2_code 62 = .ok (.iconst 0, 1) := by decide +kernel
theorem dd_Desk_buyTicket_63 : decode prog_2_method_2_code 63 = .ok (.aload 4, 2) := by decide +kernel
theorem dd_Desk_buyTicket_65 : decode prog_2_method_2_code 65 = .ok (.invokevirtual 73, 3) := by decide +kernel
theorem dd_Desk_buyTicket_68 : decode prog_2_method_2_code 68 = .ok (.aload 4, 2) := by decide +kernel
theorem dd_Desk_buyTicket_70 : decode prog_2_method_2_code 70 = .ok (.dup, 1) := by decide +kernel
theorem dd_Desk_buyTicket_71 : decode prog_2_method_2_code 71 = .ok (.getfield 67, 3) := by decide +kernel
theorem dd_Desk_buyTicket_74 : decode prog_2_method_2_code 74 = .ok (.iload 5, 2) := by decide +kernel
theorem dd_Desk_buyTicket_76 : decode prog_2_method_2_code 76 = .ok (.isub, 1) := by decide +kernel
theorem dd_Desk_buyTicket_77 : decode prog_2_method_2_code 77 = .ok (.putfield 67, 3) := by decide +kernel
theorem dd_Desk_buyTicket_80 : decode prog_2_method_2_code 80 = .ok (.aload 4, 2) := by decide +kernel
theorem dd_Desk_buyTicket_82 : decode prog_2_method_2_code 82 = .ok (.iload_n 1, 1) := by decide +kernel
theorem dd_Desk_buyTicket_83 : decode prog_2_method_2_code 83 = .ok (.iload_n 2, 1) := by decide +kernel
theorem dd_Desk_buyTicket_84 : decode prog_2_method_2_code 84 = .ok (.iload_n 3, 1) := by decide +kernel
theorem dd_Desk_buyTicket_85 : decode prog_2_method_2_code 85 = .ok (.iconst 1, 1) := by decide +kernel
theorem dd_Desk_buyTicket_86 : decode prog_2_method_2_code 86 = .ok (.invokevirtual 77, 3) := by decide +kernel
theorem dd_Desk_buyTicket_89 : decode prog_2_method_2_code 89 = .ok (.aload 4, 2) := by decide +kernel
theorem dd_Desk_buyTicket_91 : decode prog_2_method_2_code 91 = .ok (.getfield 67, 3) := by decide +kernel
theorem dd_Desk_buyTicket_94 : decode prog_2_method_2_code 94 = .ok (.ireturn, 1) := by decide +kernel
theorem dd_Desk_buyTicket_55 : decode prog_2_method_2_code 55 = .ok (.bipush (-3), 2) := by decide +kernel
theorem dd_Desk_buyTicket_57 : decode prog_2_method_2_code 57 = .ok (.ireturn, 1) := by decide +kernel
def jx_Desk_buyTicket (p0 : Option Nat) (p1 : Int32) (p2 : Int32) (p3 : Int32) : sf_M (Int32) :=
  sf_bnd (jx_SF_isBought p1 p2 p3) fun x1 =>
  if x1 = 0 then (
  sf_ret (-1 : Int32)
  ) else (
  sf_bnd (sf_gR 1 0 p0) fun x3 =>
  sf_bnd (sf_gR 4 0 x3) fun x4 =>
  sf_bnd (sf_gR 1 0 p0) fun x5 =>
  sf_bnd (sf_rc 4 x5 (jx_Office_costOf x5 p1 p2 p3)) fun x6 =>
  sf_bnd (sf_gI 5 1 x4) fun x7 =>
  if x7 < x6 then (
  sf_ret (-3 : Int32)
  ) else (
  sf_bnd (sf_rc 5 x4 (jx_Pocket_heldOf x4 p1 p2 p3)) fun x9 =>
  if x9 < (9 : Int32) then (
  sf_bnd (sf_gR 1 2 p0) fun x11 =>
  sf_bnd (sf_rc 2 x11 (jx_Log_push x11 (0 : Int32) x4)) fun _ =>
  sf_bnd (sf_gI 5 1 x4) fun x13 =>
  sf_bnd (sf_pI 5 1 x4 (x13 - x6)) fun _ =>
  sf_bnd (sf_rc 5 x4 (jx_Pocket_change x4 p1 p2 p3 (1 : Int32))) fun _ =>
  sf_bnd (sf_gI 5 1 x4) fun x15 =>
  sf_ret x15
  ) else (
  sf_ret (-3 : Int32)
  )
  )
  )
set_option maxRecDepth 20000 in
set_option maxHeartbeats 4000000 in
theorem ok_Desk_buyTicket (p0 : Option Nat) (p1 : Int32) (p2 : Int32) (p3 : Int32) : sf_Ok ({ cls := "SplitFares$Desk", name := "buyTicket", desc := "(III)I" } : Jvm.MethodName) prog_2_method_2_code 6 (some .int) 4 [sf_rv p0, .int p1, .int p2, .int p3] (jx_Desk_buyTicket p0 p1 p2 p3) (fun r => some (.int r)) := by
  refine sf_Ok.of (env := [some (sf_rv p0), some (.int p1), some (.int p2), some (.int p3), none, none]) (plainFor_of_name (by decide)) [false, false, false, false] (fun G => ⟨pk_r, pk_i, pk_i, pk_i, trivial⟩) (Nat.le_of_ble_eq_true rfl) rfl (fun X => ?_)
  unfold jx_Desk_buyTicket
  refine fp_iload_n (i := 1) (x := p1) dd_Desk_buyTicket_0 rfl rfl (fr_pc (pc' := 1) rfl ?_)
  refine fp_iload_n (i := 2) (x := p2) dd_Desk_buyTicket_1 rfl rfl (fr_pc (pc' := 2) rfl ?_)
  refine fp_iload_n (i := 3) (x := p3) dd_Desk_buyTicket_2 rfl rfl (fr_pc (pc' := 3) rfl ?_)
  refine fr_callSN (stk := []) (ok_SF_isBought p1 p2 p3) mt_SF_isBought rfl rfl sn_777 sw_395 (by decide) (Nat.le_of_ble_eq_true rfl) dd_Desk_buyTicket_3 (fun x1 => fr_to (pc' := 6) (env' := [some (sf_rv p0), some (.int p1), some (.int p2), some (.int p3), none, none]) (stk' := [.int x1]) rfl rfl rfl ?_)
  refine fr_if_ne (tgt := 11) dd_Desk_buyTicket_6 rfl (fun _ => ?_) (fun _ => ?_)
  · refine fr_pc (pc' := 9) rfl ?_
    refine fp_iconst (v := (-1 : Int32)) dd_Desk_buyTicket_9 (by decide) (fr_pc (pc' := 10) rfl ?_)
    exact fr_iret (v := (-1 : Int32)) rfl rfl dd_Desk_buyTicket_10
  · refine fp_aload_n (i := 0) (r := p0) dd_Desk_buyTicket_11 rfl rfl (fr_pc (pc' := 12) rfl ?_)
    refine fr_gR cl_1 0 (by decide) rfl sw_191 dd_Desk_buyTicket_12 (fun x3 => fr_pc (pc' := 15) rfl ?_)
    refine fr_gR cl_4 0 (by decide) rfl sw_86 dd_Desk_buyTicket_15 (fun x4 => fr_pc (pc' := 18) rfl ?_)
    refine fp_astore (i := 4) dd_Desk_buyTicket_18 (Nat.le_of_ble_eq_true rfl) (fun _ => c1_i rfl) (fr_to (pc' := 20) (env' := [some (sf_rv p0), some (.int p1), some (.int p2), some (.int p3), some (sf_rv x4), none]) (stk' := []) rfl rfl rfl ?_)
    refine fp_aload_n (i := 0) (r := p0) dd_Desk_buyTicket_20 rfl rfl (fr_pc (pc' := 21) rfl ?_)
    refine fr_gR cl_1 0 (by decide) rfl sw_191 dd_Desk_buyTicket_21 (fun x5 => fr_pc (pc' := 24) rfl ?_)
    refine fp_iload_n (i := 1) (x := p1) dd_Desk_buyTicket_24 rfl rfl (fr_pc (pc' := 25) rfl ?_)
    refine fp_iload_n (i := 2) (x := p2) dd_Desk_buyTicket_25 rfl rfl (fr_pc (pc' := 26) rfl ?_)
    refine fp_iload_n (i := 3) (x := p3) dd_Desk_buyTicket_26 rfl rfl (fr_pc (pc' := 27) rfl ?_)
    refine fr_callV (stk := []) (As := [.int p1, .int p2, .int p3]) cl_4 (ok_Office_costOf x5 p1 p2 p3) mt_Office_costOf rfl rfl sw_778 sw_404 sw_405 (by decide) (Nat.le_of_ble_eq_true rfl) dd_Desk_buyTicket_27 (fun x6 => fr_to (pc' := 30) (env' := [some (sf_rv p0), some (.int p1), some (.int p2), some (.int p3), some (sf_rv x4), none]) (stk' := [.int x6]) rfl rfl rfl ?_)
    refine fp_istore (i := 5) dd_Desk_buyTicket_30 (Nat.le_of_ble_eq_true rfl) (fun _ => c1_r rfl) (fr_to (pc' := 32) (env' := [some (sf_rv p0), some (.int p1), some (.int p2), some (.int p3), some (sf_rv x4), some (.int x6)]) (stk' := []) rfl rfl rfl ?_)
    refine fp_iload (i := 5) (x := x6) dd_Desk_buyTicket_32 rfl (fr_pc (pc' := 34) rfl ?_)
    refine fp_aload (i := 4) (r := x4) dd_Desk_buyTicket_34 rfl (fr_pc (pc' := 36) rfl ?_)
    refine fr_gI cl_5 1 (by decide) rfl sw_49 dd_Desk_buyTicket_36 (fun x7 => fr_pc (pc' := 39) rfl ?_)
    refine fr_icmp_gt (tgt := 55) dd_Desk_buyTicket_39 rfl (fun _ => ?_) (fun _ => ?_)
    · refine fp_bipush (v := (-3 : Int32)) dd_Desk_buyTicket_55 (by decide) (fr_pc (pc' := 57) rfl ?_)
      exact fr_iret (v := (-3 : Int32)) rfl rfl dd_Desk_buyTicket_57
    · refine fr_pc (pc' := 42) rfl ?_
      refine fp_aload (i := 4) (r := x4) dd_Desk_buyTicket_42 rfl (fr_pc (pc' := 44) rfl ?_)
      refine fp_iload_n (i := 1) (x := p1) dd_Desk_buyTicket_44 rfl rfl (fr_pc (pc' := 45) rfl ?_)
      refine fp_iload_n (i := 2) (x := p2) dd_Desk_buyTicket_45 rfl rfl (fr_pc (pc' := 46) rfl ?_)
      refine fp_iload_n (i := 3) (x := p3) dd_Desk_buyTicket_46 rfl rfl (fr_pc (pc' := 47) rfl ?_)
      refine fr_callV (stk := []) (As := [.int p1, .int p2, .int p3]) cl_5 (ok_Pocket_heldOf x4 p1 p2 p3) mt_Pocket_heldOf rfl rfl sw_779 sw_473 sw_474 (by decide) (Nat.le_of_ble_eq_true rfl) dd_Desk_buyTicket_47 (fun x9 => fr_to (pc' := 50) (env' := [some (sf_rv p0), some (.int p1), some (.int p2), some (.int p3), some (sf_rv x4), some (.int x6)]) (stk' := [.int x9]) rfl rfl rfl ?_)
      refine fp_bipush (v := (9 : Int32)) dd_Desk_buyTicket_50 (by decide) (fr_pc (pc' := 52) rfl ?_)
      refine fr_icmp_lt (tgt := 58) dd_Desk_buyTicket_52 rfl (fun _ => ?_) (fun _ => ?_)
      · refine fp_aload_n (i := 0) (r := p0) dd_Desk_buyTicket_58 rfl rfl (fr_pc (pc' := 59) rfl ?_)
        refine fr_gR cl_1 2 (by decide) rfl sw_195 dd_Desk_buyTicket_59 (fun x11 => fr_pc (pc' := 62) rfl ?_)
        refine fp_iconst (v := (0 : Int32)) dd_Desk_buyTicket_62 (by decide) (fr_pc (pc' := 63) rfl ?_)
        refine fp_aload (i := 4) (r := x4) dd_Desk_buyTicket_63 rfl (fr_pc (pc' := 65) rfl ?_)
        refine fr_callV (stk := []) (As := [.int (0 : Int32), sf_rv x4]) cl_2 (ok_Log_push x11 (0 : Int32) x4) mt_Log_push rfl rfl sw_780 sw_781 sw_782 (by decide) (Nat.le_of_ble_eq_true rfl) dd_Desk_buyTicket_65 (fun u12 => fr_to (pc' := 68) (env' := [some (sf_rv p0), some (.int p1), some (.int p2), some (.int p3), some (sf_rv x4), some (.int x6)]) (stk' := []) rfl rfl rfl ?_)
        refine fp_aload (i := 4) (r := x4) dd_Desk_buyTicket_68 rfl (fr_pc (pc' := 70) rfl ?_)
        refine fp_dup_r dd_Desk_buyTicket_70 (fr_pc (pc' := 71) rfl ?_)
        refine fr_gI cl_5 1 (by decide) rfl sw_49 dd_Desk_buyTicket_71 (fun x13 => fr_pc (pc' := 74) rfl ?_)
        refine fp_iload (i := 5) (x := x6) dd_Desk_buyTicket_74 rfl (fr_pc (pc' := 76) rfl ?_)
        refine fp_isub dd_Desk_buyTicket_76 (fr_pc (pc' := 77) rfl ?_)
        refine fr_pI cl_5 1 (by decide) rfl sw_49 rfl ⟨rfl, rfl⟩ dd_Desk_buyTicket_77 (fr_pc (pc' := 80) rfl ?_)
        refine fp_aload (i := 4) (r := x4) dd_Desk_buyTicket_80 rfl (fr_pc (pc' := 82) rfl ?_)
        refine fp_iload_n (i := 1) (x := p1) dd_Desk_buyTicket_82 rfl rfl (fr_pc (pc' := 83) rfl ?_)
        refine fp_iload_n (i := 2) (x := p2) dd_Desk_buyTicket_83 rfl rfl (fr_pc (pc' := 84) rfl ?_)
        refine fp_iload_n (i := 3) (x := p3) dd_Desk_buyTicket_84 rfl rfl (fr_pc (pc' := 85) rfl ?_)
        refine fp_iconst (v := (1 : Int32)) dd_Desk_buyTicket_85 (by decide) (fr_pc (pc' := 86) rfl ?_)
        refine fr_callV (stk := []) (As := [.int p1, .int p2, .int p3, .int (1 : Int32)]) cl_5 (ok_Pocket_change x4 p1 p2 p3 (1 : Int32)) mt_Pocket_change rfl rfl sw_787 sw_788 sw_789 (by decide) (Nat.le_of_ble_eq_true rfl) dd_Desk_buyTicket_86 (fun u14 => fr_to (pc' := 89) (env' := [some (sf_rv p0), some (.int p1), some (.int p2), some (.int p3), some (sf_rv x4), some (.int x6)]) (stk' := []) rfl rfl rfl ?_)
        refine fp_aload (i := 4) (r := x4) dd_Desk_buyTicket_89 rfl (fr_pc (pc' := 91) rfl ?_)
        refine fr_gI cl_5 1 (by decide) rfl sw_49 dd_Desk_buyTicket_91 (fun x15 => fr_pc (pc' := 94) rfl ?_)
        exact fr_iret (v := x15) rfl rfl dd_Desk_buyTicket_94
      · refine fr_pc (pc' := 55) rfl ?_
        refine fp_bipush (v := (-3 : Int32)) dd_Desk_buyTicket_55 (by decide) (fr_pc (pc' := 57) rfl ?_)
        exact fr_iret (v := (-3 : Int32)) rfl rfl dd_Desk_buyTicket_57
theorem mt_Desk_rideTrain : sf_Mt ({ cls := "SplitFares$Desk", name := "rideTrain", desc := "(II)I" } : Jvm.MethodName) prog_2_method_3_code 8 (some .int) 2 := ⟨sw_796, sw_2, ⟨by decide, by decide, by decide +kernel⟩, by decide⟩
theorem dd_Desk_rideTrain_0 : decode prog_2_method_3_code 0 = .ok (.iload_n 2, 1) := by decide +kernel
theorem dd_Desk_rideTrain_1 : decode prog_2_method_3_code 1 = .ok (.invokestatic 81, 3) := by decide +kernel
theorem dd_Desk_rideTrain_4 : decode prog_2_method_3_code 4 = .ok (.ifCond .ne 5, 3) := by decide +kernel
theorem dd_Desk_rideTrain_7 : decode prog_2_method_3_code 7 = .ok (.iconst (-1), 1) := by decide +kernel
theorem dd_Desk_rideTrain_8 : decode prog_2_method_3_code 8 = .ok (.ireturn, 1) := by decide +kernel
theorem dd_Desk_rideTrain_9 : decode prog_2_method_3_code 9 = .ok (.aload_n 0, 1) := by decide +kernel
theorem dd_Desk_rideTrain_10 : decode prog_2_method_3_code 10 = .ok (.getfield 12, 3) := by decide +kernel
theorem dd_Desk_rideTrain_13 : decode prog_2_method_3_code 13 = .ok (.iload_n 1, 1) := by decide +kernel
theorem dd_Desk_rideTrain_14 : decode prog_2_method_3_code 14 = .ok (.invokevirtual 85, 3) := by decide +kernel
theorem dd_Desk_rideTrain_17 : decode prog_2_method_3_code 17 = .ok (.ifCond .ne 6, 3) := by decide +kernel
theorem dd_Desk_rideTrain_20 : decode prog_2_method_3_code 20 = .ok (.bipush (-2), 2) := by decide +kernel
theorem dd_Desk_rideTrain_22 : decode prog_2_method_3_code 22 = .ok (.ireturn, 1) := by decide +kernel
theorem dd_Desk_rideTrain_23 : decode prog_2_method_3_code 23 = .ok (.aload_n 0, 1) := by decide +kernel
theorem dd_Desk_rideTrain_24 : decode prog_2_method_3_code 24 = .ok (.getfield 12, 3) := by decide +kernel
theorem dd_Desk_rideTrain_27 : decode prog_2_method_3_code 27 = .ok (.getfield 60, 3) := by decide +kernel
theorem dd_Desk_rideTrain_30 : decode prog_2_method_3_code 30 = .ok (.astore_n 3, 1) := by decide +kernel
theorem dd_Desk_rideTrain_31 : decode prog_2_method_3_code 31 = .ok (.aload_n 0, 1) := by decide +kernel
theorem dd_Desk_rideTrain_32 : decode prog_2_method_3_code 32 = .ok (.getfield 21, 3) := by decide +kernel
theorem dd_Desk_rideTrain_35 : decode prog_2_method_3_code 35 = .ok (.aload_n 0, 1) := by decide +kernel
theorem dd_Desk_rideTrain_36 : decode prog_2_method_3_code 36 = .ok (.getfield 12, 3) := by decide +kernel
theorem dd_Desk_rideTrain_39 : decode prog_2_method_3_code 39 = .ok (.iload_n 1, 1) := by decide +kernel
theorem dd_Desk_rideTrain_40 : decode prog_2_method_3_code 40 = .ok (.invokevirtual 88, 3) := by decide +kernel
theorem dd_Desk_rideTrain_43 : decode prog_2_method_3_code 43 = .ok (.aload_n 0, 1) := by decide +kernel
theorem dd_Desk_rideTrain_44 : decode prog_2_method_3_code 44 = .ok (.getfield 21, 3) := by decide +kernel
theorem dd_Desk_rideTrain_47 : decode prog_2_method_3_code 47 = .ok (.aload_n 3, 1) := by decide +kernel
theorem dd_Desk_rideTrain_48 : decode prog_2_method_3_code 48 = .ok (.getfield 92, 3) := by decide +kernel
theorem dd_Desk_rideTrain_51 : decode prog_2_method_3_code 51 = .ok (.iload_n 2, 1) := by decide +kernel
theorem dd_Desk_rideTrain_52 : decode prog_2_method_3_code 52 = .ok (.bipush 7, 2) := by decide +kernel
theorem dd_Desk_rideTrain_54 : decode prog_2_method_3_code 54 = .ok (.invokevirtual 95, 3) := by decide +kernel
theorem dd_Desk_rideTrain_57 : decode prog_2_method_3_code 57 = .ok (.istore 4, 2) := by decide +kernel
theorem dd_Desk_rideTrain_59 : decode prog_2_method_3_code 59 = .ok (.iload 4, 2) := by decide +kernel
theorem dd_Desk_rideTrain_61 : decode prog_2_method_3_code 61 = .ok (.ifCond .ge 6, 3) := by decide +kernel
theorem dd_Desk_rideTrain_64 : decode prog_2_method_3_code 64 = .ok (.bipush (-3), 2) := by decide +kernel
theorem dd_Desk_rideTrain_66 : decode prog_2_method_3_code 66 = .ok (.ireturn, 1) := by decide +kernel
theorem dd_Desk_rideTrain_67 : decode prog_2_method_3_code 67 = .ok (.aload_n 0, 1) := by decide +kernel
theorem dd_Desk_rideTrain_68 : decode prog_2_method_3_code 68 = .ok (.getfield 28, 3) := by decide +kernel
theorem dd_Desk_rideTrain_71 : decode prog_2_method_3_code 71 = .ok (.iconst 1, 1) := by decide +kernel
theorem dd_Desk_rideTrain_72 : decode prog_2_method_3_code 72 = .ok (.aload_n 3, 1) := by decide +kernel
theorem dd_Desk_rideTrain_73 : decode prog_2_method_3_code 73 = .ok (.invokevirtual 73, 3) := by decide +kernel
theorem dd_Desk_rideTrain_76 : decode prog_2_method_3_code 76 = .ok (.iconst 0, 1) := by decide +kernel
theorem dd_Desk_rideTrain_77 : decode prog_2_method_3_code 77 = .ok (.istore 5, 2) := by decide +kernel
theorem dd_Desk_rideTrain_79 : decode prog_2_method_3_code 79 = .ok (.iload 5, 2) := by decide +kernel
theorem dd_Desk_rideTrain_81 : decode prog_2_method_3_code 81 = .ok (.iload 4, 2) := by decide +kernel
theorem dd_Desk_rideTrain_83 : decode prog_2_method_3_code 83 = .ok (.if_icmp .ge 75, 3) := by decide +kernel
theorem dd_Desk_rideTrain_86 : decode prog_2_method_3_code 86 = .ok (.aload_n 0, 1) := by decide +kernel
theorem dd_Desk_rideTrain_87 : decode prog_2_method_3_code 87 = .ok (.getfield 21, 3) := by decide +kernel
theorem dd_Desk_rideTrain_90 : decode prog_2_method_3_code 90 = .ok (.aload_n 3, 1) := by decide +kernel
theorem dd_Desk_rideTrain_91 : decode prog_2_method_3_code 91 = .ok (.getfield 92, 3) := by decide +kernel
theorem dd_Desk_rideTrain_94 : decode prog_2_method_3_code 94 = .ok (.iload_n 2, 1) := by decide +kernel
theorem dd_Desk_rideTrain_95 : decode prog_2_method_3_code 95 = .ok (.invokevirtual 98, 3) := by decide +kernel
theorem dd_Desk_rideTrain_98 : decode prog_2_method_3_code 98 = .ok (.istore 6, 2) := by decide +kernel
theorem dd_Desk_rideTrain_100 : decode prog_2_method_3_code 100 = .ok (.aload_n 0, 1) := by decide +kernel
theorem dd_Desk_rideTrain_101 : decode prog_2_method_3_code 101 = .ok (.getfield 21, 3) := by decide +kernel
theorem dd_Desk_rideTrain_104 : decode prog_2_method_3_code 104 = .ok (.aload_n 3, 1) := by decide +kernel
theorem dd_Desk_rideTrain_105 : decode prog_2_method_3_code 105 = .ok (.getfield 92, 3) := by decide +kernel
theorem dd_Desk_rideTrain_108 : decode prog_2_method_3_code 108 = .ok (.iload 6, 2) := by decide +kernel
theorem dd_Desk_rideTrain_110 : decode prog_2_method_3_code 110 = .ok (.invokevirtual 102, 3) := by decide +kernel
theorem dd_Desk_rideTrain_113 : decode prog_2_method_3_code 113 = .ok (.istore 7, 2) := by decide +kernel
theorem dd_Desk_rideTrain_115 : decode prog_2_method_3_code 115 = .ok (.aload_n 3, 1) := by decide +kernel
theorem dd_Desk_rideTrain_116 : decode prog_2_method_3_code 116 = .ok (.iload 7, 2) := by decide +kernel
theorem dd_Desk_rideTrain_118 : decode prog_2_method_3_code 118 = .ok (.aload_n 3, 1) := by decide +kernel
theorem dd_Desk_rideTrain_119 : decode prog_2_method_3_code 119 = .ok (.getfield 92, 3) := by decide +kernel
theorem dd_Desk_rideTrain_122 : decode prog_2_method_3_code 122 = .ok (.iload 6, 2) := by decide +kernel
theorem dd_Desk_rideTrain_124 : decode prog_2_method_3_code 124 = .ok (.iconst (-1), 1) := by decide +kernel
theorem dd_Desk_rideTrain_125 : decode prog_2_method_3_code 125 = .ok (.invokevirtual 77, 3) := by decide +kernel
theorem dd_Desk_rideTrain_128 : decode prog_2_method_3_code 128 = .ok (.iload 7, 2) := by decide +kernel
theorem dd_Desk_rideTrain_130 : decode prog_2_method_3_code 130 = .ok (.iconst 1, 1) := by decide +kernel
theorem dd_Desk_rideTrain_131 : decode prog_2_method_3_code 131 = .ok (.if_icmp .ne 15, 3) := by decide +kernel
theorem dd_Desk_rideTrain_134 : decode prog_2_method_3_code 134 = .ok (.aload_n 3, 1) := by decide +kernel
theorem dd_Desk_rideTrain_135 : decode prog_2_method_3_code 135 = .ok (.iconst 2, 1) := by decide +kernel
theorem dd_Desk_rideTrain_136 : decode prog_2_method_3_code 136 = .ok (.iload 6, 2) := by decide +kernel
theorem dd_Desk_rideTrain_138 : decode prog_2_method_3_code 138 = .ok (.aload_n 3, 1) := by decide +kernel
theorem dd_Desk_rideTrain_139 : decode prog_2_method_3_code 139 = .ok (.getfield 92, 3) := by decide +kernel
theorem dd_Desk_rideTrain_142 : decode prog_2_method_3_code 142 = .ok (.iconst 1, 1) := by decide +kernel
theorem dd_Desk_rideTrain_143 : decode prog_2_method_3_code 143 = .ok (.invokevirtual 77, 3) := by decide +kernel
theorem dd_Desk_rideTrain_146 : decode prog_2_method_3_code 146 = .ok (.aload_n 3, 1) := by decide +kernel
theorem dd_Desk_rideTrain_147 : decode prog_2_method_3_code 147 = .ok (.iload 6, 2) := by decide +kernel
theorem dd_Desk_rideTrain_149 : decode prog_2_method_3_code 149 = .ok (.putfield 92, 3) := by decide +kernel
theorem dd_Desk_rideTrain_152 : decode prog_2_method_3_code 152 = .ok (.iinc 5 1, 3) := by decide +kernel
theorem dd_Desk_rideTrain_155 : decode prog_2_method_3_code 155 = .ok (.goto (-76), 3) := by decide +kernel
theorem dd_Desk_rideTrain_158 : decode prog_2_method_3_code 158 = .ok (.iload 4, 2) := by decide +kernel
theorem dd_Desk_rideTrain_160 : decode prog_2_method_3_code 160 = .ok (.ireturn, 1) := by decide +kernel
def jx_Desk_rideTrain (p0 : Option Nat) (p1 : Int32) (p2 : Int32) : sf_M (Int32) :=
  sf_bnd (jx_SF_isStation p2) fun x1 =>
  if x1 = 0 then (
  sf_ret (-1 : Int32)
  ) else (
  sf_bnd (sf_gR 1 0 p0) fun x3 =>
  sf_bnd (sf_rc 4 x3 (jx_Office_hasTrain x3 p1)) fun x4 =>
  if x4 = 0 then (
  sf_ret (-2 : Int32)
  ) else (
  sf_bnd (sf_gR 1 0 p0) fun x6 =>
  sf_bnd (sf_gR 4 0 x6) fun x7 =>
  sf_bnd (sf_gR 1 1 p0) fun x8 =>
  sf_bnd (sf_gR 1 0 p0) fun x9 =>
  sf_bnd (sf_rc 10 x8 (jx_Ways_fillWithTickets x8 x9 p1)) fun _ =>
  sf_bnd (sf_gR 1 1 p0) fun x11 =>
  sf_bnd (sf_gI 5 2 x7) fun x12 =>
  sf_bnd (sf_rc 10 x11 (jx_Ways_least x11 x12 p2 (7 : Int32))) fun x13 =>
  if 0 ≤ x13 then (
  sf_bnd (sf_gR 1 2 p0) fun x15 =>
  sf_bnd (sf_rc 2 x15 (jx_Log_push x15 (1 : Int32) x7)) fun _ =>
  sf_bnd (sf_loop (β := (Int32)) (γ := (Unit)) (fun b17 =>
  if x13 ≤ b17 then (
  sf_ret (.inr ())
  ) else (
  sf_bnd (sf_gR 1 1 p0) fun x19 =>
  sf_bnd (sf_gI 5 2 x7) fun x20 =>
  sf_bnd (sf_rc 10 x19 (jx_Ways_nextStop x19 x20 p2)) fun x21 =>
  sf_bnd (sf_gR 1 1 p0) fun x22 =>
  sf_bnd (sf_gI 5 2 x7) fun x23 =>
  sf_bnd (sf_rc 10 x22 (jx_Ways_sortOf x22 x23 x21)) fun x24 =>
  sf_bnd (sf_gI 5 2 x7) fun x25 =>
  sf_bnd (sf_rc 5 x7 (jx_Pocket_change x7 x24 x25 x21 (-1 : Int32))) fun _ =>
  sf_bnd (α := (Unit)) (
  if x24 = (1 : Int32) then (
  sf_bnd (sf_gI 5 2 x7) fun x28 =>
  sf_bnd (sf_rc 5 x7 (jx_Pocket_change x7 (2 : Int32) x21 x28 (1 : Int32))) fun _ =>
  sf_ret ()
  ) else (
  sf_ret ()
  )
  ) (fun v30 =>
  sf_bnd (sf_pI 5 2 x7 x21) fun _ =>
  sf_bnd (sf_ret (b17 + (1 : Int32))) fun y31 =>
  sf_ret (.inl y31)
  )
  )
  ) sf_fuel (0 : Int32)) (fun e32 =>
  sf_ret x13
  )
  ) else (
  sf_ret (-3 : Int32)
  )
  )
  )
set_option maxRecDepth 20000 in
set_option maxHeartbeats 4000000 in
theorem ok_Desk_rideTrain (p0 : Option Nat) (p1 : Int32) (p2 : Int32) : sf_Ok ({ cls := "SplitFares$Desk", name := "rideTrain", desc := "(II)I" } : Jvm.MethodName) prog_2_method_3_code 8 (some .int) 4 [sf_rv p0, .int p1, .int p2] (jx_Desk_rideTrain p0 p1 p2) (fun r => some (.int r)) := by
  refine sf_Ok.of (env := [some (sf_rv p0), some (.int p1), some (.int p2), none, none, none, none, none]) (plainFor_of_name (by decide)) [false, false, false] (fun G => ⟨pk_r, pk_i, pk_i, trivial⟩) (Nat.le_of_ble_eq_true rfl) rfl (fun X => ?_)
  unfold jx_Desk_rideTrain
  refine fp_iload_n (i := 2) (x := p2) dd_Desk_rideTrain_0 rfl rfl (fr_pc (pc' := 1) rfl ?_)
  refine fr_callSN (stk := []) (ok_SF_isStation p2) mt_SF_isStation rfl rfl sn_797 sw_401 (by decide) (Nat.le_of_ble_eq_true rfl) dd_Desk_rideTrain_1 (fun x1 => fr_to (pc' := 4) (env' := [some (sf_rv p0), some (.int p1), some (.int p2), none, none, none, none, none]) (stk' := [.int x1]) rfl rfl rfl ?_)
  refine fr_if_ne (tgt := 9) dd_Desk_rideTrain_4 rfl (fun _ => ?_) (fun _ => ?_)
  · refine fr_pc (pc' := 7) rfl ?_
    refine fp_iconst (v := (-1 : Int32)) dd_Desk_rideTrain_7 (by decide) (fr_pc (pc' := 8) rfl ?_)
    exact fr_iret (v := (-1 : Int32)) rfl rfl dd_Desk_rideTrain_8
  · refine fp_aload_n (i := 0) (r := p0) dd_Desk_rideTrain_9 rfl rfl (fr_pc (pc' := 10) rfl ?_)
    refine fr_gR cl_1 0 (by decide) rfl sw_191 dd_Desk_rideTrain_10 (fun x3 => fr_pc (pc' := 13) rfl ?_)
    refine fp_iload_n (i := 1) (x := p1) dd_Desk_rideTrain_13 rfl rfl (fr_pc (pc' := 14) rfl ?_)
    refine fr_callV (stk := []) (As := [.int p1]) cl_4 (ok_Office_hasTrain x3 p1) mt_Office_hasTrain rfl rfl sw_769 sw_387 sw_388 (by decide) (Nat.le_of_ble_eq_true rfl) dd_Desk_rideTrain_14 (fun x4 => fr_to (pc' := 17) (env' := [some (sf_rv p0), some (.int p1), some (.int p2), none, none, none, none, none]) (stk' := [.int x4]) rfl rfl rfl ?_)
    refine fr_if_ne (tgt := 23) dd_Desk_rideTrain_17 rfl (fun _ => ?_) (fun _ => ?_)
    · refine fr_pc (pc' := 20) rfl ?_
      refine fp_bipush (v := (-2 : Int32)) dd_Desk_rideTrain_20 (by decide) (fr_pc (pc' := 22) rfl ?_)
      exact fr_iret (v := (-2 : Int32)) rfl rfl dd_Desk_rideTrain_22
    · refine fp_aload_n (i := 0) (r := p0) dd_Desk_rideTrain_23 rfl rfl (fr_pc (pc' := 24) rfl ?_)
      refine fr_gR cl_1 0 (by decide) rfl sw_191 dd_Desk_rideTrain_24 (fun x6 => fr_pc (pc' := 27) rfl ?_)
      refine fr_gR cl_4 0 (by decide) rfl sw_86 dd_Desk_rideTrain_27 (fun x7 => fr_pc (pc' := 30) rfl ?_)
      refine fp_astore_n (i := 3) dd_Desk_rideTrain_30 rfl (Nat.le_of_ble_eq_true rfl) (fun _ => c1_i rfl) (fr_to (pc' := 31) (env' := [some (sf_rv p0), some (.int p1), some (.int p2), some (sf_rv x7), none, none, none, none]) (stk' := []) rfl rfl rfl ?_)
      refine fp_aload_n (i := 0) (r := p0) dd_Desk_rideTrain_31 rfl rfl (fr_pc (pc' := 32) rfl ?_)
      refine fr_gR cl_1 1 (by decide) rfl sw_193 dd_Desk_rideTrain_32 (fun x8 => fr_pc (pc' := 35) rfl ?_)
      refine fp_aload_n (i := 0) (r := p0) dd_Desk_rideTrain_35 rfl rfl (fr_pc (pc' := 36) rfl ?_)
      refine fr_gR cl_1 0 (by decide) rfl sw_191 dd_Desk_rideTrain_36 (fun x9 => fr_pc (pc' := 39) rfl ?_)
      refine fp_iload_n (i := 1) (x := p1) dd_Desk_rideTrain_39 rfl rfl (fr_pc (pc' := 40) rfl ?_)
      refine fr_callV (stk := []) (As := [sf_rv x9, .int p1]) cl_10 (ok_Ways_fillWithTickets x8 x9 p1) mt_Ways_fillWithTickets rfl rfl sw_798 sw_799 sw_800 (by decide) (Nat.le_of_ble_eq_true rfl) dd_Desk_rideTrain_40 (fun u10 => fr_to (pc' := 43) (env' := [some (sf_rv p0), some (.int p1), some (.int p2), some (sf_rv x7), none, none, none, none]) (stk' := []) rfl rfl rfl ?_)
      refine fp_aload_n (i := 0) (r := p0) dd_Desk_rideTrain_43 rfl rfl (fr_pc (pc' := 44) rfl ?_)
      refine fr_gR cl_1 1 (by decide) rfl sw_193 dd_Desk_rideTrain_44 (fun x11 => fr_pc (pc' := 47) rfl ?_)
      refine fp_aload_n (i := 3) (r := x7) dd_Desk_rideTrain_47 rfl rfl (fr_pc (pc' := 48) rfl ?_)
      refine fr_gI cl_5 2 (by decide) rfl sw_52 dd_Desk_rideTrain_48 (fun x12 => fr_pc (pc' := 51) rfl ?_)
      refine fp_iload_n (i := 2) (x := p2) dd_Desk_rideTrain_51 rfl rfl (fr_pc (pc' := 52) rfl ?_)
      refine fp_bipush (v := (7 : Int32)) dd_Desk_rideTrain_52 (by decide) (fr_pc (pc' := 54) rfl ?_)
      refine fr_callV (stk := []) (As := [.int x12, .int p2, .int (7 : Int32)]) cl_10 (ok_Ways_least x11 x12 p2 (7 : Int32)) mt_Ways_least rfl rfl sw_809 sw_810 sw_811 (by decide) (Nat.le_of_ble_eq_true rfl) dd_Desk_rideTrain_54 (fun x13 => fr_to (pc' := 57) (env' := [some (sf_rv p0), some (.int p1), some (.int p2), some (sf_rv x7), none, none, none, none]) (stk' := [.int x13]) rfl rfl rfl ?_)
      refine fp_istore (i := 4) dd_Desk_rideTrain_57 (Nat.le_of_ble_eq_true rfl) (fun _ => c1_r rfl) (fr_to (pc' := 59) (env' := [some (sf_rv p0), some (.int p1), some (.int p2), some (sf_rv x7), some (.int x13), none, none, none]) (stk' := []) rfl rfl rfl ?_)
      refine fp_iload (i := 4) (x := x13) dd_Desk_rideTrain_59 rfl (fr_pc (pc' := 61) rfl ?_)
      refine fr_if_ge (tgt := 67) dd_Desk_rideTrain_61 rfl (fun _ => ?_) (fun _ => ?_)
      · refine fp_aload_n (i := 0) (r := p0) dd_Desk_rideTrain_67 rfl rfl (fr_pc (pc' := 68) rfl ?_)
        refine fr_gR cl_1 2 (by decide) rfl sw_195 dd_Desk_rideTrain_68 (fun x15 => fr_pc (pc' := 71) rfl ?_)
        refine fp_iconst (v := (1 : Int32)) dd_Desk_rideTrain_71 (by decide) (fr_pc (pc' := 72) rfl ?_)
        refine fp_aload_n (i := 3) (r := x7) dd_Desk_rideTrain_72 rfl rfl (fr_pc (pc' := 73) rfl ?_)
        refine fr_callV (stk := []) (As := [.int (1 : Int32), sf_rv x7]) cl_2 (ok_Log_push x15 (1 : Int32) x7) mt_Log_push rfl rfl sw_780 sw_781 sw_782 (by decide) (Nat.le_of_ble_eq_true rfl) dd_Desk_rideTrain_73 (fun u16 => fr_to (pc' := 76) (env' := [some (sf_rv p0), some (.int p1), some (.int p2), some (sf_rv x7), some (.int x13), none, none, none]) (stk' := []) rfl rfl rfl ?_)
        refine fp_iconst (v := (0 : Int32)) dd_Desk_rideTrain_76 (by decide) (fr_pc (pc' := 77) rfl ?_)
        refine fp_istore (i := 5) dd_Desk_rideTrain_77 (Nat.le_of_ble_eq_true rfl) (fun _ => c1_i rfl) (fr_to (pc' := 79) (env' := [some (sf_rv p0), some (.int p1), some (.int p2), some (sf_rv x7), some (.int x13), some (.int (0 : Int32)), none, none]) (stk' := []) rfl rfl rfl ?_)
        refine fr_to (pc' := 79) (env' := [some (sf_rv p0), some (.int p1), some (.int p2), some (sf_rv x7), some (.int x13), some (.int (0 : Int32)), none, none]) (stk' := []) rfl rfl rfl ?_
        refine fr_bnd (l1 := (fun (e32 : (Unit)) => sf_p 158 [some (sf_rv p0), some (.int p1), some (.int p2), some (sf_rv x7), some (.int x13), none, none, none] [])) (fr_loop (Lb := (fun (b17 : (Int32)) => sf_p 79 [some (sf_rv p0), some (.int p1), some (.int p2), some (sf_rv x7), some (.int x13), some (.int b17), none, none] [])) (fun b17 => ?_) _ _) (fun e32 => ?_)
        · refine fp_iload (i := 5) (x := b17) dd_Desk_rideTrain_79 rfl (fr_pc (pc' := 81) rfl ?_)
          refine fp_iload (i := 4) (x := x13) dd_Desk_rideTrain_81 rfl (fr_pc (pc' := 83) rfl ?_)
          refine fr_icmp_ge (tgt := 158) dd_Desk_rideTrain_83 rfl (fun _ => ?_) (fun _ => ?_)
          · refine fr_wk [true, true, true, true, true, false, false, false] ?_
            exact fr_ret rfl
          · refine fr_pc (pc' := 86) rfl ?_
            refine fp_aload_n (i := 0) (r := p0) dd_Desk_rideTrain_86 rfl rfl (fr_pc (pc' := 87) rfl ?_)
            refine fr_gR cl_1 1 (by decide) rfl sw_193 dd_Desk_rideTrain_87 (fun x19 => fr_pc (pc' := 90) rfl ?_)
            refine fp_aload_n (i := 3) (r := x7) dd_Desk_rideTrain_90 rfl rfl (fr_pc (pc' := 91) rfl ?_)
            refine fr_gI cl_5 2 (by decide) rfl sw_52 dd_Desk_rideTrain_91 (fun x20 => fr_pc (pc' := 94) rfl ?_)
            refine fp_iload_n (i := 2) (x := p2) dd_Desk_rideTrain_94 rfl rfl (fr_pc (pc' := 95) rfl ?_)
            refine fr_callV (stk := []) (As := [.int x20, .int p2]) cl_10 (ok_Ways_nextStop x19 x20 p2) mt_Ways_nextStop rfl rfl sw_826 sw_827 sw_828 (by decide) (Nat.le_of_ble_eq_true rfl) dd_Desk_rideTrain_95 (fun x21 => fr_to (pc' := 98) (env' := [some (sf_rv p0), some (.int p1), some (.int p2), some (sf_rv x7), some (.int x13), some (.int b17), none, none]) (stk' := [.int x21]) rfl rfl rfl ?_)
            refine fp_istore (i := 6) dd_Desk_rideTrain_98 (Nat.le_of_ble_eq_true rfl) (fun _ => c1_i rfl) (fr_to (pc' := 100) (env' := [some (sf_rv p0), some (.int p1), some (.int p2), some (sf_rv x7), some (.int x13), some (.int b17), some (.int x21), none]) (stk' := []) rfl rfl rfl ?_)
            refine fp_aload_n (i := 0) (r := p0) dd_Desk_rideTrain_100 rfl rfl (fr_pc (pc' := 101) rfl ?_)
            refine fr_gR cl_1 1 (by decide) rfl sw_193 dd_Desk_rideTrain_101 (fun x22 => fr_pc (pc' := 104) rfl ?_)
            refine fp_aload_n (i := 3) (r := x7) dd_Desk_rideTrain_104 rfl rfl (fr_pc (pc' := 105) rfl ?_)
            refine fr_gI cl_5 2 (by decide) rfl sw_52 dd_Desk_rideTrain_105 (fun x23 => fr_pc (pc' := 108) rfl ?_)
            refine fp_iload (i := 6) (x := x21) dd_Desk_rideTrain_108 rfl (fr_pc (pc' := 110) rfl ?_)
            refine fr_callV (stk := []) (As := [.int x23, .int x21]) cl_10 (ok_Ways_sortOf x22 x23 x21) mt_Ways_sortOf rfl rfl sw_831 sw_832 sw_833 (by decide) (Nat.le_of_ble_eq_true rfl) dd_Desk_rideTrain_110 (fun x24 => fr_to (pc' := 113) (env' := [some (sf_rv p0), some (.int p1), some (.int p2), some (sf_rv x7), some (.int x13), some (.int b17), some (.int x21), none]) (stk' := [.int x24]) rfl rfl rfl ?_)
            refine fp_istore (i := 7) dd_Desk_rideTrain_113 (Nat.le_of_ble_eq_true rfl) (fun _ => c1_i rfl) (fr_to (pc' := 115) (env' := [some (sf_rv p0), some (.int p1), some (.int p2), some (sf_rv x7), some (.int x13), some (.int b17), some (.int x21), some (.int x24)]) (stk' := []) rfl rfl rfl ?_)
            refine fp_aload_n (i := 3) (r := x7) dd_Desk_rideTrain_115 rfl rfl (fr_pc (pc' := 116) rfl ?_)
            refine fp_iload (i := 7) (x := x24) dd_Desk_rideTrain_116 rfl (fr_pc (pc' := 118) rfl ?_)
            refine fp_aload_n (i := 3) (r := x7) dd_Desk_rideTrain_118 rfl rfl (fr_pc (pc' := 119) rfl ?_)
            refine fr_gI cl_5 2 (by decide) rfl sw_52 dd_Desk_rideTrain_119 (fun x25 => fr_pc (pc' := 122) rfl ?_)
            refine fp_iload (i := 6) (x := x21) dd_Desk_rideTrain_122 rfl (fr_pc (pc' := 124) rfl ?_)
            refine fp_iconst (v := (-1 : Int32)) dd_Desk_rideTrain_124 (by decide) (fr_pc (pc' := 125) rfl ?_)
            refine fr_callV (stk := []) (As := [.int x24, .int x25, .int x21, .int (-1 : Int32)]) cl_5 (ok_Pocket_change x7 x24 x25 x21 (-1 : Int32)) mt_Pocket_change rfl rfl sw_787 sw_788 sw_789 (by decide) (Nat.le_of_ble_eq_true rfl) dd_Desk_rideTrain_125 (fun u26 => fr_to (pc' := 128) (env' := [some (sf_rv p0), some (.int p1), some (.int p2), some (sf_rv x7), some (.int x13), some (.int b17), some (.int x21), some (.int x24)]) (stk' := []) rfl rfl rfl ?_)
            refine fp_iload (i := 7) (x := x24) dd_Desk_rideTrain_128 rfl (fr_pc (pc' := 130) rfl ?_)
            refine fp_iconst (v := (1 : Int32)) dd_Desk_rideTrain_130 (by decide) (fr_pc (pc' := 131) rfl ?_)
            refine fr_bnd (l1 := (fun (v30 : (Unit)) => sf_p 146 [some (sf_rv p0), some (.int p1), some (.int p2), some (sf_rv x7), some (.int x13), some (.int b17), some (.int x21), some (.int x24)] [])) ?_ (fun v30 => ?_)
            · refine fr_icmp_ne (tgt := 146) dd_Desk_rideTrain_131 rfl (fun _ => ?_) (fun _ => ?_)
              · refine fr_pc (pc' := 134) rfl ?_
                refine fp_aload_n (i := 3) (r := x7) dd_Desk_rideTrain_134 rfl rfl (fr_pc (pc' := 135) rfl ?_)
                refine fp_iconst (v := (2 : Int32)) dd_Desk_rideTrain_135 (by decide) (fr_pc (pc' := 136) rfl ?_)
                refine fp_iload (i := 6) (x := x21) dd_Desk_rideTrain_136 rfl (fr_pc (pc' := 138) rfl ?_)
                refine fp_aload_n (i := 3) (r := x7) dd_Desk_rideTrain_138 rfl rfl (fr_pc (pc' := 139) rfl ?_)
                refine fr_gI cl_5 2 (by decide) rfl sw_52 dd_Desk_rideTrain_139 (fun x28 => fr_pc (pc' := 142) rfl ?_)
                refine fp_iconst (v := (1 : Int32)) dd_Desk_rideTrain_142 (by decide) (fr_pc (pc' := 143) rfl ?_)
                refine fr_callV (stk := []) (As := [.int (2 : Int32), .int x21, .int x28, .int (1 : Int32)]) cl_5 (ok_Pocket_change x7 (2 : Int32) x21 x28 (1 : Int32)) mt_Pocket_change rfl rfl sw_787 sw_788 sw_789 (by decide) (Nat.le_of_ble_eq_true rfl) dd_Desk_rideTrain_143 (fun u29 => fr_to (pc' := 146) (env' := [some (sf_rv p0), some (.int p1), some (.int p2), some (sf_rv x7), some (.int x13), some (.int b17), some (.int x21), some (.int x24)]) (stk' := []) rfl rfl rfl ?_)
                exact fr_ret rfl
              · exact fr_ret rfl
            · refine fp_aload_n (i := 3) (r := x7) dd_Desk_rideTrain_146 rfl rfl (fr_pc (pc' := 147) rfl ?_)
              refine fp_iload (i := 6) (x := x21) dd_Desk_rideTrain_147 rfl (fr_pc (pc' := 149) rfl ?_)
              refine fr_pI cl_5 2 (by decide) rfl sw_52 rfl ⟨rfl, rfl⟩ dd_Desk_rideTrain_149 (fr_pc (pc' := 152) rfl ?_)
              refine fr_niinc (i := 5) (x := b17) (w := (1 : Int32)) dd_Desk_rideTrain_152 rfl (by decide) (Nat.le_of_ble_eq_true rfl) (fun _ => c1_i rfl) (fun y31 => fr_to (pc' := 155) (env' := [some (sf_rv p0), some (.int p1), some (.int p2), some (sf_rv x7), some (.int x13), some (.int y31), some (.int x21), some (.int x24)]) (stk' := []) rfl rfl rfl ?_)
              refine fp_goto (tgt := 79) dd_Desk_rideTrain_155 rfl ?_
              refine fr_wk [true, true, true, true, true, true, false, false] ?_
              exact fr_ret rfl
        · refine fp_iload (i := 4) (x := x13) dd_Desk_rideTrain_158 rfl (fr_pc (pc' := 160) rfl ?_)
          exact fr_iret (v := x13) rfl rfl dd_Desk_rideTrain_160
      · refine fr_pc (pc' := 64) rfl ?_
        refine fp_bipush (v := (-3 : Int32)) dd_Desk_rideTrain_64 (by decide) (fr_pc (pc' := 66) rfl ?_)
        exact fr_iret (v := (-3 : Int32)) rfl rfl dd_Desk_rideTrain_66
theorem mt_Desk_savePence : sf_Mt ({ cls := "SplitFares$Desk", name := "savePence", desc := "(I)I" } : Jvm.MethodName) prog_2_method_4_code 2 (some .int) 1 := ⟨sw_838, sw_2, ⟨by decide, by decide, by decide +kernel⟩, by decide⟩
theorem dd_Desk_savePence_0 : decode prog_2_method_4_code 0 = .ok (.iload_n 1, 1) := by decide +kernel
theorem dd_Desk_savePence_1 : decode prog_2_method_4_code 1 = .ok (.iconst 1, 1) := by decide +kernel
theorem dd_Desk_savePence_2 : decode prog_2_method_4_code 2 = .ok (.if_icmp .lt 10, 3) := by decide +kernel
theorem dd_Desk_savePence_5 : decode prog_2_method_4_code 5 = .ok (.iload_n 1, 1) := by decide +kernel
theorem dd_Desk_savePence_6 : decode prog_2_method_4_code 6 = .ok (.sipush 9999, 3) := by decide +kernel
theorem dd_Desk_savePence_9 : decode prog_2_method_4_code 9 = .ok (.if_icmp .le 5, 3) := by decide +kernel
theorem dd_Desk_savePence_14 : decode prog_2_method_4_code 14 = .ok (.aload_n 0, 1) := by decide +kernel
theorem dd_Desk_savePence_15 : decode prog_2_method_4_code 15 = .ok (.getfield 28, 3) := by decide +kernel
theorem dd_Desk_savePence_18 : decode prog_2_method_4_code 18 = .ok (.iconst 2, 1) := by decide +kernel
theorem dd_Desk_savePence_19 : decode prog_2_method_4_code 19 = .ok (.aload_n 0, 1) := by decide +kernel
theorem dd_Desk_savePence_20 : decode prog_2_method_4_code 20 = .ok (.getfield 12, 3) := by decide +kernel
theorem dd_Desk_savePence_23 : decode prog_2_method_4_code 23 = .ok (.getfield 60, 3) := by decide +kernel
theorem dd_Desk_savePence_26 : decode prog_2_method_4_code 26 = .ok (.invokevirtual 73, 3) := by decide +kernel
theorem dd_Desk_savePence_29 : decode prog_2_method_4_code 29 = .ok (.aload_n 0, 1) := by decide +kernel
theorem dd_Desk_savePence_30 : decode prog_2_method_4_code 30 = .ok (.getfield 12, 3) := by decide +kernel
theorem dd_Desk_savePence_33 : decode prog_2_method_4_code 33 = .ok (.getfield 60, 3) := by decide +kernel
theorem dd_Desk_savePence_36 : decode prog_2_method_4_code 36 = .ok (.ldc 105, 2) := by decide +kernel
theorem dd_Desk_savePence_38 : decode prog_2_method_4_code 38 = .ok (.aload_n 0, 1) := by decide +kernel
theorem dd_Desk_savePence_39 : decode prog_2_method_4_code 39 = .ok (.getfield 12, 3) := by decide +kernel
theorem dd_Desk_savePence_42 : decode prog_2_method_4_code 42 = .ok (.getfield 60, 3) := by decide +kernel
theorem dd_Desk_savePence_45 : decode prog_2_method_4_code 45 = .ok (.getfield 67, 3) := by decide +kernel
theorem dd_Desk_savePence_48 : decode prog_2_method_4_code 48 = .ok (.iload_n 1, 1) := by decide +kernel
theorem dd_Desk_savePence_49 : decode prog_2_method_4_code 49 = .ok (.iadd, 1) := by decide +kernel
theorem dd_Desk_savePence_50 : decode prog_2_method_4_code 50 = .ok (.invokestatic 106, 3) := by decide +kernel
theorem dd_Desk_savePence_53 : decode prog_2_method_4_code 53 = .ok (.putfield 67, 3) := by decide +kernel
theorem dd_Desk_savePence_56 : decode prog_2_method_4_code 56 = .ok (.aload_n 0, 1) := by decide +kernel
theorem dd_Desk_savePence_57 : decode prog_2_method_4_code 57 = .ok (.getfield 12, 3) := by decide +kernel
theorem dd_Desk_savePence_60 : decode prog_2_method_4_code 60 = .ok (.getfield 60, 3) := by decide +kernel
theorem dd_Desk_savePence_63 : decode prog_2_method_4_code 63 = .ok (.getfield 67, 3) := by decide +kernel
theorem dd_Desk_savePence_66 : decode prog_2_method_4_code 66 = .ok (.ireturn, 1) := by decide +kernel
theorem dd_Desk_savePence_12 : decode prog_2_method_4_code 12 = .ok (.iconst (-1), 1) := by decide +kernel
theorem dd_Desk_savePence_13 : decode prog_2_method_4_code 13 = .ok (.ireturn, 1) := by decide +kernel
def jx_Desk_savePence (p0 : Option Nat) (p1 : Int32) : sf_M (Int32) :=
  if p1 < (1 : Int32) then (
  sf_ret (-1 : Int32)
  ) else (
  if p1 ≤ (9999 : Int32) then (
  sf_bnd (sf_gR 1 2 p0) fun x3 =>
  sf_bnd (sf_gR 1 0 p0) fun x4 =>
  sf_bnd (sf_gR 4 0 x4) fun x5 =>
  sf_bnd (sf_rc 2 x3 (jx_Log_push x3 (2 : Int32) x5)) fun _ =>
  sf_bnd (sf_gR 1 0 p0) fun x7 =>
  sf_bnd (sf_gR 4 0 x7) fun x8 =>
  sf_bnd (sf_gR 1 0 p0) fun x9 =>
  sf_bnd (sf_gR 4 0 x9) fun x10 =>
  sf_bnd (sf_gI 5 1 x10) fun x11 =>
  sf_bnd (jx_Math_min (99999 : Int32) (x11 + p1)) fun x12 =>
  sf_bnd (sf_pI 5 1 x8 x12) fun _ =>
  sf_bnd (sf_gR 1 0 p0) fun x13 =>
  sf_bnd (sf_gR 4 0 x13) fun x14 =>
  sf_bnd (sf_gI 5 1 x14) fun x15 =>
  sf_ret x15
  ) else (
  sf_ret (-1 : Int32)
  )
  )
set_option maxRecDepth 20000 in
set_option maxHeartbeats 4000000 in
theorem ok_Desk_savePence (p0 : Option Nat) (p1 : Int32) : sf_Ok ({ cls := "SplitFares$Desk", name := "savePence", desc := "(I)I" } : Jvm.MethodName) prog_2_method_4_code 2 (some .int) 3 [sf_rv p0, .int p1] (jx_Desk_savePence p0 p1) (fun r => some (.int r)) := by
  refine sf_Ok.of (env := [some (sf_rv p0), some (.int p1)]) (plainFor_of_name (by decide)) [false, false] (fun G => ⟨pk_r, pk_i, trivial⟩) (Nat.le_of_ble_eq_true rfl) rfl (fun X => ?_)
  unfold jx_Desk_savePence
  refine fp_iload_n (i := 1) (x := p1) dd_Desk_savePence_0 rfl rfl (fr_pc (pc' := 1) rfl ?_)
  refine fp_iconst (v := (1 : Int32)) dd_Desk_savePence_1 (by decide) (fr_pc (pc' := 2) rfl ?_)
  refine fr_icmp_lt (tgt := 12) dd_Desk_savePence_2 rfl (fun _ => ?_) (fun _ => ?_)
  · refine fp_iconst (v := (-1 : Int32)) dd_Desk_savePence_12 (by decide) (fr_pc (pc' := 13) rfl ?_)
    exact fr_iret (v := (-1 : Int32)) rfl rfl dd_Desk_savePence_13
  · refine fr_pc (pc' := 5) rfl ?_
    refine fp_iload_n (i := 1) (x := p1) dd_Desk_savePence_5 rfl rfl (fr_pc (pc' := 6) rfl ?_)
    refine fp_sipush (v := (9999 : Int32)) dd_Desk_savePence_6 (by decide) (fr_pc (pc' := 9) rfl ?_)
    refine fr_icmp_le (tgt := 14) dd_Desk_savePence_9 rfl (fun _ => ?_) (fun _ => ?_)
    · refine fp_aload_n (i := 0) (r := p0) dd_Desk_savePence_14 rfl rfl (fr_pc (pc' := 15) rfl ?_)
      refine fr_gR cl_1 2 (by decide) rfl sw_195 dd_Desk_savePence_15 (fun x3 => fr_pc (pc' := 18) rfl ?_)
      refine fp_iconst (v := (2 : Int32)) dd_Desk_savePence_18 (by decide) (fr_pc (pc' := 19) rfl ?_)
      refine fp_aload_n (i := 0) (r := p0) dd_Desk_savePence_19 rfl rfl (fr_pc (pc' := 20) rfl ?_)
      refine fr_gR cl_1 0 (by decide) rfl sw_191 dd_Desk_savePence_20 (fun x4 => fr_pc (pc' := 23) rfl ?_)
      refine fr_gR cl_4 0 (by decide) rfl sw_86 dd_Desk_savePence_23 (fun x5 => fr_pc (pc' := 26) rfl ?_)
      refine fr_callV (stk := []) (As := [.int (2 : Int32), sf_rv x5]) cl_2 (ok_Log_push x3 (2 : Int32) x5) mt_Log_push rfl rfl sw_780 sw_781 sw_782 (by decide) (Nat.le_of_ble_eq_true rfl) dd_Desk_savePence_26 (fun u6 => fr_to (pc' := 29) (env' := [some (sf_rv p0), some (.int p1)]) (stk' := []) rfl rfl rfl ?_)
      refine fp_aload_n (i := 0) (r := p0) dd_Desk_savePence_29 rfl rfl (fr_pc (pc' := 30) rfl ?_)
      refine fr_gR cl_1 0 (by decide) rfl sw_191 dd_Desk_savePence_30 (fun x7 => fr_pc (pc' := 33) rfl ?_)
      refine fr_gR cl_4 0 (by decide) rfl sw_86 dd_Desk_savePence_33 (fun x8 => fr_pc (pc' := 36) rfl ?_)
      refine fp_ldc (v := (99999 : Int32)) dd_Desk_savePence_36 sw_839 (fr_pc (pc' := 38) rfl ?_)
      refine fp_aload_n (i := 0) (r := p0) dd_Desk_savePence_38 rfl rfl (fr_pc (pc' := 39) rfl ?_)
      refine fr_gR cl_1 0 (by decide) rfl sw_191 dd_Desk_savePence_39 (fun x9 => fr_pc (pc' := 42) rfl ?_)
      refine fr_gR cl_4 0 (by decide) rfl sw_86 dd_Desk_savePence_42 (fun x10 => fr_pc (pc' := 45) rfl ?_)
      refine fr_gI cl_5 1 (by decide) rfl sw_49 dd_Desk_savePence_45 (fun x11 => fr_pc (pc' := 48) rfl ?_)
      refine fp_iload_n (i := 1) (x := p1) dd_Desk_savePence_48 rfl rfl (fr_pc (pc' := 49) rfl ?_)
      refine fp_iadd dd_Desk_savePence_49 (fr_pc (pc' := 50) rfl ?_)
      refine fr_callS (stk := [sf_rv x8]) (ok_Math_min (99999 : Int32) (x11 + p1)) mt_Math_min rfl rfl sw_840 sw_432 (by decide) (Nat.le_of_ble_eq_true rfl) dd_Desk_savePence_50 (fun x12 => fr_to (pc' := 53) (env' := [some (sf_rv p0), some (.int p1)]) (stk' := [.int x12, sf_rv x8]) rfl rfl rfl ?_)
      refine fr_pI cl_5 1 (by decide) rfl sw_49 rfl ⟨rfl, rfl⟩ dd_Desk_savePence_53 (fr_pc (pc' := 56) rfl ?_)
      refine fp_aload_n (i := 0) (r := p0) dd_Desk_savePence_56 rfl rfl (fr_pc (pc' := 57) rfl ?_)
      refine fr_gR cl_1 0 (by decide) rfl sw_191 dd_Desk_savePence_57 (fun x13 => fr_pc (pc' := 60) rfl ?_)
      refine fr_gR cl_4 0 (by decide) rfl sw_86 dd_Desk_savePence_60 (fun x14 => fr_pc (pc' := 63) rfl ?_)
      refine fr_gI cl_5 1 (by decide) rfl sw_49 dd_Desk_savePence_63 (fun x15 => fr_pc (pc' := 66) rfl ?_)
      exact fr_iret (v := x15) rfl rfl dd_Desk_savePence_66
    · refine fr_pc (pc' := 12) rfl ?_
      refine fp_iconst (v := (-1 : Int32)) dd_Desk_savePence_12 (by decide) (fr_pc (pc' := 13) rfl ?_)
      exact fr_iret (v := (-1 : Int32)) rfl rfl dd_Desk_savePence_13
theorem mt_Desk_passDay : sf_Mt ({ cls := "SplitFares$Desk", name := "passDay", desc := "()I" } : Jvm.MethodName) prog_2_method_5_code 1 (some .int) 0 := ⟨sw_844, sw_2, ⟨by decide, by decide, by decide +kernel⟩, by decide⟩
theorem dd_Desk_passDay_0 : decode prog_2_method_5_code 0 = .ok (.aload_n 0, 1) := by decide +kernel
theorem dd_Desk_passDay_1 : decode prog_2_method_5_code 1 = .ok (.getfield 12, 3) := by decide +kernel
theorem dd_Desk_passDay_4 : decode prog_2_method_5_code 4 = .ok (.getfield 60, 3) := by decide +kernel
theorem dd_Desk_passDay_7 : decode prog_2_method_5_code 7 = .ok (.getfield 111, 3) := by decide +kernel
theorem dd_Desk_passDay_10 : decode prog_2_method_5_code 10 = .ok (.sipush 999, 3) := by decide +kernel
theorem dd_Desk_passDay_13 : decode prog_2_method_5_code 13 = .ok (.if_icmp .lt 6, 3) := by decide +kernel
theorem dd_Desk_passDay_16 : decode prog_2_method_5_code 16 = .ok (.bipush (-3), 2) := by decide +kernel
theorem dd_Desk_passDay_18 : decode prog_2_method_5_code 18 = .ok (.ireturn, 1) := by decide +kernel
theorem dd_Desk_passDay_19 : decode prog_2_method_5_code 19 = .ok (.aload_n 0, 1) := by decide +kernel
theorem dd_Desk_passDay_20 : decode prog_2_method_5_code 20 = .ok (.getfield 28, 3) := by decide +kernel
theorem dd_Desk_passDay_23 : decode prog_2_method_5_code 23 = .ok (.iconst 3, 1) := by decide +kernel
theorem dd_Desk_passDay_24 : decode prog_2_method_5_code 24 = .ok (.aload_n 0, 1) := by decide +kernel
theorem dd_Desk_passDay_25 : decode prog_2_method_5_code 25 = .ok (.getfield 12, 3) := by decide +kernel
theorem dd_Desk_passDay_28 : decode prog_2_method_5_code 28 = .ok (.getfield 60, 3) := by decide +kernel
theorem dd_Desk_passDay_31 : decode prog_2_method_5_code 31 = .ok (.invokevirtual 73, 3) := by decide +kernel
theorem dd_Desk_passDay_34 : decode prog_2_method_5_code 34 = .ok (.aload_n 0, 1) := by decide +kernel
theorem dd_Desk_passDay_35 : decode prog_2_method_5_code 35 = .ok (.getfield 12, 3) := by decide +kernel
theorem dd_Desk_passDay_38 : decode prog_2_method_5_code 38 = .ok (.getfield 60, 3) := by decide +kernel
theorem dd_Desk_passDay_41 : decode prog_2_method_5_code 41 = .ok (.dup, 1) := by decide +kernel
theorem dd_Desk_passDay_42 : decode prog_2_method_5_code 42 = .ok (.getfield 111, 3) := by decide +kernel
theorem dd_Desk_passDay_45 : decode prog_2_method_5_code 45 = .ok (.iconst 1, 1) := by decide +kernel
theorem dd_Desk_passDay_46 : decode prog_2_method_5_code 46 = .ok (.iadd, 1) := by decide +kernel
theorem dd_Desk_passDay_47 : decode prog_2_method_5_code 47 = .ok (.putfield 111, 3) := by decide +kernel
theorem dd_Desk_passDay_50 : decode prog_2_method_5_code 50 = .ok (.aload_n 0, 1) := by decide +kernel
theorem dd_Desk_passDay_51 : decode prog_2_method_5_code 51 = .ok (.getfield 12, 3) := by decide +kernel
theorem dd_Desk_passDay_54 : decode prog_2_method_5_code 54 = .ok (.getfield 60, 3) := by decide +kernel
theorem dd_Desk_passDay_57 : decode prog_2_method_5_code 57 = .ok (.invokevirtual 114, 3) := by decide +kernel
theorem dd_Desk_passDay_60 : decode prog_2_method_5_code 60 = .ok (.ireturn, 1) := by decide +kernel
def jx_Desk_passDay (p0 : Option Nat) : sf_M (Int32) :=
  sf_bnd (sf_gR 1 0 p0) fun x1 =>
  sf_bnd (sf_gR 4 0 x1) fun x2 =>
  sf_bnd (sf_gI 5 3 x2) fun x3 =>
  if x3 < (999 : Int32) then (
  sf_bnd (sf_gR 1 2 p0) fun x5 =>
  sf_bnd (sf_gR 1 0 p0) fun x6 =>
  sf_bnd (sf_gR 4 0 x6) fun x7 =>
  sf_bnd (sf_rc 2 x5 (jx_Log_push x5 (3 : Int32) x7)) fun _ =>
  sf_bnd (sf_gR 1 0 p0) fun x9 =>
  sf_bnd (sf_gR 4 0 x9) fun x10 =>
  sf_bnd (sf_gI 5 3 x10) fun x11 =>
  sf_bnd (sf_pI 5 3 x10 (x11 + (1 : Int32))) fun _ =>
  sf_bnd (sf_gR 1 0 p0) fun x12 =>
  sf_bnd (sf_gR 4 0 x12) fun x13 =>
  sf_bnd (sf_rc 5 x13 (jx_Pocket_dropHalves x13)) fun x14 =>
  sf_ret x14
  ) else (
  sf_ret (-3 : Int32)
  )
set_option maxRecDepth 20000 in
set_option maxHeartbeats 4000000 in
theorem ok_Desk_passDay (p0 : Option Nat) : sf_Ok ({ cls := "SplitFares$Desk", name := "passDay", desc := "()I" } : Jvm.MethodName) prog_2_method_5_code 1 (some .int) 3 [sf_rv p0] (jx_Desk_passDay p0) (fun r => some (.int r)) := by
  refine sf_Ok.of (env := [some (sf_rv p0)]) (plainFor_of_name (by decide)) [false] (fun G => ⟨pk_r, trivial⟩) (Nat.le_of_ble_eq_true rfl) rfl (fun X => ?_)
  unfold jx_Desk_passDay
  refine fp_aload_n (i := 0) (r := p0) dd_Desk_passDay_0 rfl rfl (fr_pc (pc' := 1) rfl ?_)
  refine fr_gR cl_1 0 (by decide) rfl sw_191 dd_Desk_passDay_1 (fun x1 => fr_pc (pc' := 4) rfl ?_)
  refine fr_gR cl_4 0 (by decide) rfl sw_86 dd_Desk_passDay_4 (fun x2 => fr_pc (pc' := 7) rfl ?_)
  refine fr_gI cl_5 3 (by decide) rfl sw_55 dd_Desk_passDay_7 (fun x3 => fr_pc (pc' := 10) rfl ?_)
  refine fp_sipush (v := (999 : Int32)) dd_Desk_passDay_10 (by decide) (fr_pc (pc' := 13) rfl ?_)
  refine fr_icmp_lt (tgt := 19) dd_Desk_passDay_13 rfl (fun _ => ?_) (fun _ => ?_)
  · refine fp_aload_n (i := 0) (r := p0) dd_Desk_passDay_19 rfl rfl (fr_pc (pc' := 20) rfl ?_)
    refine fr_gR cl_1 2 (by decide) rfl sw_195 dd_Desk_passDay_20 (fun x5 => fr_pc (pc' := 23) rfl ?_)
    refine fp_iconst (v := (3 : Int32)) dd_Desk_passDay_23 (by decide) (fr_pc (pc' := 24) rfl ?_)
    refine fp_aload_n (i := 0) (r := p0) dd_Desk_passDay_24 rfl rfl (fr_pc (pc' := 25) rfl ?_)
    refine fr_gR cl_1 0 (by decide) rfl sw_191 dd_Desk_passDay_25 (fun x6 => fr_pc (pc' := 28) rfl ?_)
    refine fr_gR cl_4 0 (by decide) rfl sw_86 dd_Desk_passDay_28 (fun x7 => fr_pc (pc' := 31) rfl ?_)
    refine fr_callV (stk := []) (As := [.int (3 : Int32), sf_rv x7]) cl_2 (ok_Log_push x5 (3 : Int32) x7) mt_Log_push rfl rfl sw_780 sw_781 sw_782 (by decide) (Nat.le_of_ble_eq_true rfl) dd_Desk_passDay_31 (fun u8 => fr_to (pc' := 34) (env' := [some (sf_rv p0)]) (stk' := []) rfl rfl rfl ?_)
    refine fp_aload_n (i := 0) (r := p0) dd_Desk_passDay_34 rfl rfl (fr_pc (pc' := 35) rfl ?_)
    refine fr_gR cl_1 0 (by decide) rfl sw_191 dd_Desk_passDay_35 (fun x9 => fr_pc (pc' := 38) rfl ?_)
    refine fr_gR cl_4 0 (by decide) rfl sw_86 dd_Desk_passDay_38 (fun x10 => fr_pc (pc' := 41) rfl ?_)
    refine fp_dup_r dd_Desk_passDay_41 (fr_pc (pc' := 42) rfl ?_)
    refine fr_gI cl_5 3 (by decide) rfl sw_55 dd_Desk_passDay_42 (fun x11 => fr_pc (pc' := 45) rfl ?_)
    refine fp_iconst (v := (1 : Int32)) dd_Desk_passDay_45 (by decide) (fr_pc (pc' := 46) rfl ?_)
    refine fp_iadd dd_Desk_passDay_46 (fr_pc (pc' := 47) rfl ?_)
    refine fr_pI cl_5 3 (by decide) rfl sw_55 rfl ⟨rfl, rfl⟩ dd_Desk_passDay_47 (fr_pc (pc' := 50) rfl ?_)
    refine fp_aload_n (i := 0) (r := p0) dd_Desk_passDay_50 rfl rfl (fr_pc (pc' := 51) rfl ?_)
    refine fr_gR cl_1 0 (by decide) rfl sw_191 dd_Desk_passDay_51 (fun x12 => fr_pc (pc' := 54) rfl ?_)
    refine fr_gR cl_4 0 (by decide) rfl sw_86 dd_Desk_passDay_54 (fun x13 => fr_pc (pc' := 57) rfl ?_)
    refine fr_callV (stk := []) (As := []) cl_5 (ok_Pocket_dropHalves x13) mt_Pocket_dropHalves rfl rfl sw_845 sw_846 sw_847 (by decide) (Nat.le_of_ble_eq_true rfl) dd_Desk_passDay_57 (fun x14 => fr_to (pc' := 60) (env' := [some (sf_rv p0)]) (stk' := [.int x14]) rfl rfl rfl ?_)
    exact fr_iret (v := x14) rfl rfl dd_Desk_passDay_60
  · refine fr_pc (pc' := 16) rfl ?_
    refine fp_bipush (v := (-3 : Int32)) dd_Desk_passDay_16 (by decide) (fr_pc (pc' := 18) rfl ?_)
    exact fr_iret (v := (-3 : Int32)) rfl rfl dd_Desk_passDay_18
theorem mt_Desk_runClause : sf_Mt ({ cls := "SplitFares$Desk", name := "runClause", desc := "(LSplitFares$Program;I)Z" } : Jvm.MethodName) prog_2_method_8_code 9 (some .boolean) 2 := ⟨sw_759, sw_2, ⟨by decide, by decide, by decide +kernel⟩, by decide⟩
theorem dd_Desk_runClause_0 : decode prog_2_method_8_code 0 = .ok (.aload_n 1, 1) := by decide +kernel
theorem dd_Desk_runClause_1 : decode prog_2_method_8_code 1 = .ok (.iload_n 2, 1) := by decide +kernel
theorem dd_Desk_runClause_2 : decode prog_2_method_8_code 2 = .ok (.iconst 0, 1) := by decide +kernel
theorem dd_Desk_runClause_3 : decode prog_2_method_8_code 3 = .ok (.invokevirtual 125, 3) := by decide +kernel
theorem dd_Desk_runClause_6 : decode prog_2_method_8_code 6 = .ok (.istore_n 3, 1) := by decide +kernel
theorem dd_Desk_runClause_7 : decode prog_2_method_8_code 7 = .ok (.aload_n 1, 1) := by decide +kernel
theorem dd_Desk_runClause_8 : decode prog_2_method_8_code 8 = .ok (.iload_n 2, 1) := by decide +kernel
theorem dd_Desk_runClause_9 : decode prog_2_method_8_code 9 = .ok (.iconst 1, 1) := by decide +kernel
theorem dd_Desk_runClause_10 : decode prog_2_method_8_code 10 = .ok (.invokevirtual 125, 3) := by decide +kernel
theorem dd_Desk_runClause_13 : decode prog_2_method_8_code 13 = .ok (.istore 4, 2) := by decide +kernel
theorem dd_Desk_runClause_15 : decode prog_2_method_8_code 15 = .ok (.iconst 0, 1) := by decide +kernel
theorem dd_Desk_runClause_16 : decode prog_2_method_8_code 16 = .ok (.istore 5, 2) := by decide +kernel
theorem dd_Desk_runClause_18 : decode prog_2_method_8_code 18 = .ok (.iload 5, 2) := by decide +kernel
theorem dd_Desk_runClause_20 : decode prog_2_method_8_code 20 = .ok (.iload 4, 2) := by decide +kernel
theorem dd_Desk_runClause_22 : decode prog_2_method_8_code 22 = .ok (.if_icmp .ge 204, 3) := by decide +kernel
theorem dd_Desk_runClause_25 : decode prog_2_method_8_code 25 = .ok (.aload_n 0, 1) := by decide +kernel
theorem dd_Desk_runClause_26 : decode prog_2_method_8_code 26 = .ok (.invokevirtual 130, 3) := by decide +kernel
theorem dd_Desk_runClause_29 : decode prog_2_method_8_code 29 = .ok (.aload_n 0, 1) := by decide +kernel
theorem dd_Desk_runClause_30 : decode prog_2_method_8_code 30 = .ok (.getfield 45, 3) := by decide +kernel
theorem dd_Desk_runClause_33 : decode prog_2_method_8_code 33 = .ok (.aload_n 1, 1) := by decide +kernel
theorem dd_Desk_runClause_34 : decode prog_2_method_8_code 34 = .ok (.iload_n 2, 1) := by decide +kernel
theorem dd_Desk_runClause_35 : decode prog_2_method_8_code 35 = .ok (.iconst 4, 1) := by decide +kernel
theorem dd_Desk_runClause_36 : decode prog_2_method_8_code 36 = .ok (.invokevirtual 133, 3) := by decide +kernel
theorem dd_Desk_runClause_39 : decode prog_2_method_8_code 39 = .ok (.iconst 1, 1) := by decide +kernel
theorem dd_Desk_runClause_40 : decode prog_2_method_8_code 40 = .ok (.if_icmp .eq 6, 3) := by decide +kernel
theorem dd_Desk_runClause_43 : decode prog_2_method_8_code 43 = .ok (.goto 177, 3) := by decide +kernel
theorem dd_Desk_runClause_46 : decode prog_2_method_8_code 46 = .ok (.aload_n 0, 1) := by decide +kernel
theorem dd_Desk_runClause_47 : decode prog_2_method_8_code 47 = .ok (.getfield 45, 3) := by decide +kernel
theorem dd_Desk_runClause_50 : decode prog_2_method_8_code 50 = .ok (.aload_n 1, 1) := by decide +kernel
theorem dd_Desk_runClause_51 : decode prog_2_method_8_code 51 = .ok (.iload_n 2, 1) := by decide +kernel
theorem dd_Desk_runClause_52 : decode prog_2_method_8_code 52 = .ok (.iconst 2, 1) := by decide +kernel
theorem dd_Desk_runClause_53 : decode prog_2_method_8_code 53 = .ok (.invokevirtual 133, 3) := by decide +kernel
theorem dd_Desk_runClause_56 : decode prog_2_method_8_code 56 = .ok (.istore 6, 2) := by decide +kernel
theorem dd_Desk_runClause_58 : decode prog_2_method_8_code 58 = .ok (.aload_n 0, 1) := by decide +kernel
theorem dd_Desk_runClause_59 : decode prog_2_method_8_code 59 = .ok (.getfield 45, 3) := by decide +kernel
theorem dd_Desk_runClause_62 : decode prog_2_method_8_code 62 = .ok (.aload_n 1, 1) := by decide +kernel
theorem dd_Desk_runClause_63 : decode prog_2_method_8_code 63 = .ok (.iload_n 2, 1) := by decide +kernel
theorem dd_Desk_runClause_64 : decode prog_2_method_8_code 64 = .ok (.iconst 3, 1) := by decide +kernel
theorem dd_Desk_runClause_65 : decode prog_2_method_8_code 65 = .ok (.invokevirtual 133, 3) := by decide +kernel
theorem dd_Desk_runClause_68 : decode prog_2_method_8_code 68 = .ok (.istore 7, 2) := by decide +kernel
theorem dd_Desk_runClause_70 : decode prog_2_method_8_code 70 = .ok (.iload 6, 2) := by decide +kernel
theorem dd_Desk_runClause_72 : decode prog_2_method_8_code 72 = .ok (.ldc 137, 2) := by decide +kernel
theorem dd_Desk_runClause_74 : decode prog_2_method_8_code 74 = .ok (.if_icmp .eq 10, 3) := by decide +kernel
theorem dd_Desk_runClause_77 : decode prog_2_method_8_code 77 = .ok (.iload 7, 2) := by decide +kernel
theorem dd_Desk_runClause_79 : decode prog_2_method_8_code 79 = .ok (.ldc 137, 2) := by decide +kernel
theorem dd_Desk_runClause_81 : decode prog_2_method_8_code 81 = .ok (.if_icmp .ne 5, 3) := by decide +kernel
theorem dd_Desk_runClause_86 : decode prog_2_method_8_code 86 = .ok (.bipush (-3), 2) := by decide +kernel
theorem dd_Desk_runClause_88 : decode prog_2_method_8_code 88 = .ok (.istore 8, 2) := by decide +kernel
theorem dd_Desk_runClause_90 : decode prog_2_method_8_code 90 = .ok (.iload_n 3, 1) := by decide +kernel
theorem dd_Desk_runClause_91 : decode prog_2_method_8_code 91 = .ok (.tableswitch 94 0 4 #[33, 47, 61, 74, 85], 33) := by decide +kernel
theorem dd_Desk_runClause_176 : decode prog_2_method_8_code 176 = .ok (.aload_n 0, 1) := by decide +kernel
theorem dd_Desk_runClause_177 : decode prog_2_method_8_code 177 = .ok (.invokevirtual 148, 3) := by decide +kernel
theorem dd_Desk_runClause_180 : decode prog_2_method_8_code 180 = .ok (.istore 8, 2) := by decide +kernel
theorem dd_Desk_runClause_182 : decode prog_2_method_8_code 182 = .ok (.goto 3, 3) := by decide +kernel
theorem dd_Desk_runClause_165 : decode prog_2_method_8_code 165 = .ok (.aload_n 0, 1) := by decide +kernel
theorem dd_Desk_runClause_166 : decode prog_2_method_8_code 166 = .ok (.iload 6, 2) := by decide +kernel
theorem dd_Desk_runClause_168 : decode prog_2_method_8_code 168 = .ok (.invokevirtual 144, 3) := by decide +kernel
theorem dd_Desk_runClause_171 : decode prog_2_method_8_code 171 = .ok (.istore 8, 2) := by decide +kernel
theorem dd_Desk_runClause_173 : decode prog_2_method_8_code 173 = .ok (.goto 12, 3) := by decide +kernel
theorem dd_Desk_runClause_152 : decode prog_2_method_8_code 152 = .ok (.aload_n 0, 1) := by decide +kernel
theorem dd_Desk_runClause_153 : decode prog_2_method_8_code 153 = .ok (.iload 6, 2) := by decide +kernel
theorem dd_Desk_runClause_155 : decode prog_2_method_8_code 155 = .ok (.iload 7, 2) := by decide +kernel
theorem dd_Desk_runClause_157 : decode prog_2_method_8_code 157 = .ok (.invokevirtual 141, 3) := by decide +kernel
theorem dd_Desk_runClause_160 : decode prog_2_method_8_code 160 = .ok (.istore 8, 2) := by decide +kernel
theorem dd_Desk_runClause_162 : decode prog_2_method_8_code 162 = .ok (.goto 23, 3) := by decide +kernel
theorem dd_Desk_runClause_138 : decode prog_2_method_8_code 138 = .ok (.aload_n 0, 1) := by decide +kernel
theorem dd_Desk_runClause_139 : decode prog_2_method_8_code 139 = .ok (.iconst 1, 1) := by decide +kernel
theorem dd_Desk_runClause_140 : decode prog_2_method_8_code 140 = .ok (.iload 6, 2) := by decide +kernel
theorem dd_Desk_runClause_142 : decode prog_2_method_8_code 142 = .ok (.iload 7, 2) := by decide +kernel
theorem dd_Desk_runClause_144 : decode prog_2_method_8_code 144 = .ok (.invokevirtual 138, 3) := by decide +kernel
theorem dd_Desk_runClause_147 : decode prog_2_method_8_code 147 = .ok (.istore 8, 2) := by decide +kernel
theorem dd_Desk_runClause_149 : decode prog_2_method_8_code 149 = .ok (.goto 36, 3) := by decide +kernel
theorem dd_Desk_runClause_124 : decode prog_2_method_8_code 124 = .ok (.aload_n 0, 1) := by decide +kernel
theorem dd_Desk_runClause_125 : decode prog_2_method_8_code 125 = .ok (.iconst 0, 1) := by decide +kernel
theorem dd_Desk_runClause_126 : decode prog_2_method_8_code 126 = .ok (.iload 6, 2) := by decide +kernel
theorem dd_Desk_runClause_128 : decode prog_2_method_8_code 128 = .ok (.iload 7, 2) := by decide +kernel
theorem dd_Desk_runClause_130 : decode prog_2_method_8_code 130 = .ok (.invokevirtual 138, 3) := by decide +kernel
theorem dd_Desk_runClause_133 : decode prog_2_method_8_code 133 = .ok (.istore 8, 2) := by decide +kernel
theorem dd_Desk_runClause_135 : decode prog_2_method_8_code 135 = .ok (.goto 50, 3) := by decide +kernel
theorem dd_Desk_runClause_185 : decode prog_2_method_8_code 185 = .ok (.iload 8, 2) := by decide +kernel
theorem dd_Desk_runClause_187 : decode prog_2_method_8_code 187 = .ok (.ifCond .ge 5, 3) := by decide +kernel
theorem dd_Desk_runClause_190 : decode prog_2_method_8_code 190 = .ok (.iconst 0, 1) := by decide +kernel
theorem dd_Desk_runClause_191 : decode prog_2_method_8_code 191 = .ok (.ireturn, 1) := by decide +kernel
theorem dd_Desk_runClause_192 : decode prog_2_method_8_code 192 = .ok (.aload_n 0, 1) := by decide +kernel
theorem dd_Desk_runClause_193 : decode prog_2_method_8_code 193 = .ok (.iload_n 3, 1) := by decide +kernel
theorem dd_Desk_runClause_194 : decode prog_2_method_8_code 194 = .ok (.iconst 2, 1) := by decide +kernel
theorem dd_Desk_runClause_195 : decode prog_2_method_8_code 195 = .ok (.if_icmp .ne 8, 3) := by decide +kernel
theorem dd_Desk_runClause_198 : decode prog_2_method_8_code 198 = .ok (.iload 8, 2) := by decide +kernel
theorem dd_Desk_runClause_200 : decode prog_2_method_8_code 200 = .ok (.goto 7, 3) := by decide +kernel
theorem dd_Desk_runClause_203 : decode prog_2_method_8_code 203 = .ok (.aload_n 0, 1) := by decide +kernel
theorem dd_Desk_runClause_204 : decode prog_2_method_8_code 204 = .ok (.getfield 53, 3) := by decide +kernel
theorem dd_Desk_runClause_207 : decode prog_2_method_8_code 207 = .ok (.putfield 53, 3) := by decide +kernel
theorem dd_Desk_runClause_210 : decode prog_2_method_8_code 210 = .ok (.aload_n 0, 1) := by decide +kernel
theorem dd_Desk_runClause_211 : decode prog_2_method_8_code 211 = .ok (.dup, 1) := by decide +kernel
theorem dd_Desk_runClause_212 : decode prog_2_method_8_code 212 = .ok (.getfield 49, 3) := by decide +kernel
theorem dd_Desk_runClause_215 : decode prog_2_method_8_code 215 = .ok (.iconst 1, 1) := by decide +kernel
theorem dd_Desk_runClause_216 : decode prog_2_method_8_code 216 = .ok (.iadd, 1) := by decide +kernel
theorem dd_Desk_runClause_217 : decode prog_2_method_8_code 217 = .ok (.putfield 49, 3) := by decide +kernel
theorem dd_Desk_runClause_220 : decode prog_2_method_8_code 220 = .ok (.iinc 5 1, 3) := by decide +kernel
theorem dd_Desk_runClause_223 : decode prog_2_method_8_code 223 = .ok (.goto (-205), 3) := by decide +kernel
theorem dd_Desk_runClause_84 : decode prog_2_method_8_code 84 = .ok (.iconst 0, 1) := by decide +kernel
theorem dd_Desk_runClause_85 : decode prog_2_method_8_code 85 = .ok (.ireturn, 1) := by decide +kernel
theorem dd_Desk_runClause_226 : decode prog_2_method_8_code 226 = .ok (.iconst 1, 1) := by decide +kernel
theorem dd_Desk_runClause_227 : decode prog_2_method_8_code 227 = .ok (.ireturn, 1) := by decide +kernel
def jx_Desk_runClause (p0 : Option Nat) (p1 : Option Nat) (p2 : Int32) : sf_M (Int32) :=
  sf_bnd (sf_rc 6 p1 (jx_Program_noted p1 p2 (0 : Int32))) fun x1 =>
  sf_bnd (sf_rc 6 p1 (jx_Program_noted p1 p2 (1 : Int32))) fun x2 =>
  sf_or (α := Int32) (β := (Unit)) (sf_loop (β := (Int32)) (γ := (Int32 ⊕ (Unit))) (fun b3 =>
  if x2 ≤ b3 then (
  sf_ret (.inr (.inr ()))
  ) else (
  sf_bnd (sf_rc 1 p0 (jx_Desk_tellWords p0)) fun _ =>
  sf_bnd (sf_gR 1 5 p0) fun x6 =>
  sf_bnd (sf_rc 3 x6 (jx_Machine_evaluate x6 p1 p2 (4 : Int32))) fun x7 =>
  if x7 = (1 : Int32) then (
  sf_bnd (sf_gR 1 5 p0) fun x9 =>
  sf_bnd (sf_rc 3 x9 (jx_Machine_evaluate x9 p1 p2 (2 : Int32))) fun x10 =>
  sf_bnd (sf_gR 1 5 p0) fun x11 =>
  sf_bnd (sf_rc 3 x11 (jx_Machine_evaluate x11 p1 p2 (3 : Int32))) fun x12 =>
  if x10 = (-2000000000 : Int32) then (
  sf_ret (.inr (.inl (0 : Int32)))
  ) else (
  if x12 = (-2000000000 : Int32) then (
  sf_ret (.inr (.inl (0 : Int32)))
  ) else (
  sf_bnd (α := (Int32)) (
  if x1 = (0 : Int32) then (
  sf_bnd (sf_rc 1 p0 (jx_Desk_buyTicket p0 (0 : Int32) x10 x12)) fun x15 =>
  sf_ret x15
  ) else (
  if x1 = (1 : Int32) then (
  sf_bnd (sf_rc 1 p0 (jx_Desk_buyTicket p0 (1 : Int32) x10 x12)) fun x16 =>
  sf_ret x16
  ) else (
  if x1 = (2 : Int32) then (
  sf_bnd (sf_rc 1 p0 (jx_Desk_rideTrain p0 x10 x12)) fun x17 =>
  sf_ret x17
  ) else (
  if x1 = (3 : Int32) then (
  sf_bnd (sf_rc 1 p0 (jx_Desk_savePence p0 x10)) fun x18 =>
  sf_ret x18
  ) else (
  if x1 = (4 : Int32) then (
  sf_bnd (sf_rc 1 p0 (jx_Desk_passDay p0)) fun x19 =>
  sf_ret x19
  ) else (
  sf_ret (-3 : Int32)
  )
  )
  )
  )
  )
  ) (fun v20 =>
  if 0 ≤ v20 then (
  sf_bnd (α := (Int32)) (
  if x1 = (2 : Int32) then (
  sf_ret v20
  ) else (
  sf_bnd (sf_gI 1 7 p0) fun x23 =>
  sf_ret x23
  )
  ) (fun v24 =>
  sf_bnd (sf_pI 1 7 p0 v24) fun _ =>
  sf_bnd (sf_gI 1 6 p0) fun x25 =>
  sf_bnd (sf_pI 1 6 p0 (x25 + (1 : Int32))) fun _ =>
  sf_bnd (sf_ret (b3 + (1 : Int32))) fun y26 =>
  sf_ret (.inl y26)
  )
  ) else (
  sf_ret (.inr (.inl (0 : Int32)))
  )
  )
  )
  )
  ) else (
  sf_bnd (sf_ret (b3 + (1 : Int32))) fun y27 =>
  sf_ret (.inl y27)
  )
  )
  ) sf_fuel (0 : Int32)) (fun e28 =>
  sf_ret (1 : Int32)
  )
set_option maxRecDepth 20000 in
set_option maxHeartbeats 4000000 in
theorem ok_Desk_runClause (p0 : Option Nat) (p1 : Option Nat) (p2 : Int32) : sf_Ok ({ cls := "SplitFares$Desk", name := "runClause", desc := "(LSplitFares$Program;I)Z" } : Jvm.MethodName) prog_2_method_8_code 9 (some .boolean) 5 [sf_rv p0, sf_rv p1, .int p2] (jx_Desk_runClause p0 p1 p2) (fun r => some (.int r)) := by
  refine sf_Ok.of (env := [some (sf_rv p0), some (sf_rv p1), some (.int p2), none, none, none, none, none, none]) (plainFor_of_name (by decide)) [false, false, false] (fun G => ⟨pk_r, pk_r, pk_i, trivial⟩) (Nat.le_of_ble_eq_true rfl) rfl (fun X => ?_)
  unfold jx_Desk_runClause
  refine fp_aload_n (i := 1) (r := p1) dd_Desk_runClause_0 rfl rfl (fr_pc (pc' := 1) rfl ?_)
  refine fp_iload_n (i := 2) (x := p2) dd_Desk_runClause_1 rfl rfl (fr_pc (pc' := 2) rfl ?_)
  refine fp_iconst (v := (0 : Int32)) dd_Desk_runClause_2 (by decide) (fr_pc (pc' := 3) rfl ?_)
  refine fr_callV (stk := []) (As := [.int p2, .int (0 : Int32)]) cl_6 (ok_Program_noted p1 p2 (0 : Int32)) mt_Program_noted rfl rfl sw_760 sw_423 sw_424 (by decide) (Nat.le_of_ble_eq_true rfl) dd_Desk_runClause_3 (fun x1 => fr_to (pc' := 6) (env' := [some (sf_rv p0), some (sf_rv p1), some (.int p2), none, none, none, none, none, none]) (stk' := [.int x1]) rfl rfl rfl ?_)
  refine fp_istore_n (i := 3) dd_Desk_runClause_6 rfl (Nat.le_of_ble_eq_true rfl) (fun _ => c1_i rfl) (fr_to (pc' := 7) (env' := [some (sf_rv p0), some (sf_rv p1), some (.int p2), some (.int x1), none, none, none, none, none]) (stk' := []) rfl rfl rfl ?_)
  refine fp_aload_n (i := 1) (r := p1) dd_Desk_runClause_7 rfl rfl (fr_pc (pc' := 8) rfl ?_)
  refine fp_iload_n (i := 2) (x := p2) dd_Desk_runClause_8 rfl rfl (fr_pc (pc' := 9) rfl ?_)
  refine fp_iconst (v := (1 : Int32)) dd_Desk_runClause_9 (by decide) (fr_pc (pc' := 10) rfl ?_)
  refine fr_callV (stk := []) (As := [.int p2, .int (1 : Int32)]) cl_6 (ok_Program_noted p1 p2 (1 : Int32)) mt_Program_noted rfl rfl sw_760 sw_423 sw_424 (by decide) (Nat.le_of_ble_eq_true rfl) dd_Desk_runClause_10 (fun x2 => fr_to (pc' := 13) (env' := [some (sf_rv p0), some (sf_rv p1), some (.int p2), some (.int x1), none, none, none, none, none]) (stk' := [.int x2]) rfl rfl rfl ?_)
  refine fp_istore (i := 4) dd_Desk_runClause_13 (Nat.le_of_ble_eq_true rfl) (fun _ => c1_i rfl) (fr_to (pc' := 15) (env' := [some (sf_rv p0), some (sf_rv p1), some (.int p2), some (.int x1), some (.int x2), none, none, none, none]) (stk' := []) rfl rfl rfl ?_)
  refine fp_iconst (v := (0 : Int32)) dd_Desk_runClause_15 (by decide) (fr_pc (pc' := 16) rfl ?_)
  refine fp_istore (i := 5) dd_Desk_runClause_16 (Nat.le_of_ble_eq_true rfl) (fun _ => c1_i rfl) (fr_to (pc' := 18) (env' := [some (sf_rv p0), some (sf_rv p1), some (.int p2), some (.int x1), some (.int x2), some (.int (0 : Int32)), none, none, none]) (stk' := []) rfl rfl rfl ?_)
  refine fr_to (pc' := 18) (env' := [some (sf_rv p0), some (sf_rv p1), some (.int p2), some (.int x1), some (.int x2), some (.int (0 : Int32)), none, none, none]) (stk' := []) rfl rfl rfl ?_
  refine fr_or (l1 := (fun (e28 : (Unit)) => sf_p 226 [some (sf_rv p0), some (sf_rv p1), some (.int p2), some (.int x1), some (.int x2), none, none, none, none] [])) (fr_loop (Lb := (fun (b3 : (Int32)) => sf_p 18 [some (sf_rv p0), some (sf_rv p1), some (.int p2), some (.int x1), some (.int x2), some (.int b3), none, none, none] [])) (fun b3 => ?_) _ _) (fun e28 => ?_)
  · refine fp_iload (i := 5) (x := b3) dd_Desk_runClause_18 rfl (fr_pc (pc' := 20) rfl ?_)
    refine fp_iload (i := 4) (x := x2) dd_Desk_runClause_20 rfl (fr_pc (pc' := 22) rfl ?_)
    refine fr_icmp_ge (tgt := 226) dd_Desk_runClause_22 rfl (fun _ => ?_) (fun _ => ?_)
    · refine fr_wk [true, true, true, true, true, false, false, false, false] ?_
      exact fr_ret rfl
    · refine fr_pc (pc' := 25) rfl ?_
      refine fp_aload_n (i := 0) (r := p0) dd_Desk_runClause_25 rfl rfl (fr_pc (pc' := 26) rfl ?_)
      refine fr_callV (stk := []) (As := []) cl_1 (ok_Desk_tellWords p0) mt_Desk_tellWords rfl rfl sw_761 sw_763 sp_18 (by decide) (Nat.le_of_ble_eq_true rfl) dd_Desk_runClause_26 (fun u5 => fr_to (pc' := 29) (env' := [some (sf_rv p0), some (sf_rv p1), some (.int p2), some (.int x1), some (.int x2), some (.int b3), none, none, none]) (stk' := []) rfl rfl rfl ?_)
      refine fp_aload_n (i := 0) (r := p0) dd_Desk_runClause_29 rfl rfl (fr_pc (pc' := 30) rfl ?_)
      refine fr_gR cl_1 5 (by decide) rfl sw_199 dd_Desk_runClause_30 (fun x6 => fr_pc (pc' := 33) rfl ?_)
      refine fp_aload_n (i := 1) (r := p1) dd_Desk_runClause_33 rfl rfl (fr_pc (pc' := 34) rfl ?_)
      refine fp_iload_n (i := 2) (x := p2) dd_Desk_runClause_34 rfl rfl (fr_pc (pc' := 35) rfl ?_)
      refine fp_iconst (v := (4 : Int32)) dd_Desk_runClause_35 (by decide) (fr_pc (pc' := 36) rfl ?_)
      refine fr_callV (stk := []) (As := [sf_rv p1, .int p2, .int (4 : Int32)]) cl_3 (ok_Machine_evaluate x6 p1 p2 (4 : Int32)) mt_Machine_evaluate rfl rfl sw_771 sw_427 sw_428 (by decide) (Nat.le_of_ble_eq_true rfl) dd_Desk_runClause_36 (fun x7 => fr_to (pc' := 39) (env' := [some (sf_rv p0), some (sf_rv p1), some (.int p2), some (.int x1), some (.int x2), some (.int b3), none, none, none]) (stk' := [.int x7]) rfl rfl rfl ?_)
      refine fp_iconst (v := (1 : Int32)) dd_Desk_runClause_39 (by decide) (fr_pc (pc' := 40) rfl ?_)
      refine fr_icmp_eq (tgt := 46) dd_Desk_runClause_40 rfl (fun _ => ?_) (fun _ => ?_)
      · refine fp_aload_n (i := 0) (r := p0) dd_Desk_runClause_46 rfl rfl (fr_pc (pc' := 47) rfl ?_)
        refine fr_gR cl_1 5 (by decide) rfl sw_199 dd_Desk_runClause_47 (fun x9 => fr_pc (pc' := 50) rfl ?_)
        refine fp_aload_n (i := 1) (r := p1) dd_Desk_runClause_50 rfl rfl (fr_pc (pc' := 51) rfl ?_)
        refine fp_iload_n (i := 2) (x := p2) dd_Desk_runClause_51 rfl rfl (fr_pc (pc' := 52) rfl ?_)
        refine fp_iconst (v := (2 : Int32)) dd_Desk_runClause_52 (by decide) (fr_pc (pc' := 53) rfl ?_)
        refine fr_callV (stk := []) (As := [sf_rv p1, .int p2, .int (2 : Int32)]) cl_3 (ok_Machine_evaluate x9 p1 p2 (2 : Int32)) mt_Machine_evaluate rfl rfl sw_771 sw_427 sw_428 (by decide) (Nat.le_of_ble_eq_true rfl) dd_Desk_runClause_53 (fun x10 => fr_to (pc' := 56) (env' := [some (sf_rv p0), some (sf_rv p1), some (.int p2), some (.int x1), some (.int x2), some (.int b3), none, none, none]) (stk' := [.int x10]) rfl rfl rfl ?_)
        refine fp_istore (i := 6) dd_Desk_runClause_56 (Nat.le_of_ble_eq_true rfl) (fun _ => c1_i rfl) (fr_to (pc' := 58) (env' := [some (sf_rv p0), some (sf_rv p1), some (.int p2), some (.int x1), some (.int x2), some (.int b3), some (.int x10), none, none]) (stk' := []) rfl rfl rfl ?_)
        refine fp_aload_n (i := 0) (r := p0) dd_Desk_runClause_58 rfl rfl (fr_pc (pc' := 59) rfl ?_)
        refine fr_gR cl_1 5 (by decide) rfl sw_199 dd_Desk_runClause_59 (fun x11 => fr_pc (pc' := 62) rfl ?_)
        refine fp_aload_n (i := 1) (r := p1) dd_Desk_runClause_62 rfl rfl (fr_pc (pc' := 63) rfl ?_)
        refine fp_iload_n (i := 2) (x := p2) dd_Desk_runClause_63 rfl rfl (fr_pc (pc' := 64) rfl ?_)
        refine fp_iconst (v := (3 : Int32)) dd_Desk_runClause_64 (by decide) (fr_pc (pc' := 65) rfl ?_)
        refine fr_callV (stk := []) (As := [sf_rv p1, .int p2, .int (3 : Int32)]) cl_3 (ok_Machine_evaluate x11 p1 p2 (3 : Int32)) mt_Machine_evaluate rfl rfl sw_771 sw_427 sw_428 (by decide) (Nat.le_of_ble_eq_true rfl) dd_Desk_runClause_65 (fun x12 => fr_to (pc' := 68) (env' := [some (sf_rv p0), some (sf_rv p1), some (.int p2), some (.int x1), some (.int x2), some (.int b3), some (.int x10), none, none]) (stk' := [.int x12]) rfl rfl rfl ?_)
        refine fp_istore (i := 7) dd_Desk_runClause_68 (Nat.le_of_ble_eq_true rfl) (fun _ => c1_i rfl) (fr_to (pc' := 70) (env' := [some (sf_rv p0), some (sf_rv p1), some (.int p2), some (.int x1), some (.int x2), some (.int b3), some (.int x10), some (.int x12), none]) (stk' := []) rfl rfl rfl ?_)
        refine fp_iload (i := 6) (x := x10) dd_Desk_runClause_70 rfl (fr_pc (pc' := 72) rfl ?_)
        refine fp_ldc (v := (-2000000000 : Int32)) dd_Desk_runClause_72 sw_772 (fr_pc (pc' := 74) rfl ?_)
        refine fr_icmp_eq (tgt := 84) dd_Desk_runClause_74 rfl (fun _ => ?_) (fun _ => ?_)
        · refine fp_iconst (v := (0 : Int32)) dd_Desk_runClause_84 (by decide) (fr_pc (pc' := 85) rfl ?_)
          exact fr_zret0 (v := (0 : Int32)) (Or.inl rfl) rfl rfl dd_Desk_runClause_85
        · refine fr_pc (pc' := 77) rfl ?_
          refine fp_iload (i := 7) (x := x12) dd_Desk_runClause_77 rfl (fr_pc (pc' := 79) rfl ?_)
          refine fp_ldc (v := (-2000000000 : Int32)) dd_Desk_runClause_79 sw_772 (fr_pc (pc' := 81) rfl ?_)
          refine fr_icmp_ne (tgt := 86) dd_Desk_runClause_81 rfl (fun _ => ?_) (fun _ => ?_)
          · refine fr_pc (pc' := 84) rfl ?_
            refine fp_iconst (v := (0 : Int32)) dd_Desk_runClause_84 (by decide) (fr_pc (pc' := 85) rfl ?_)
            exact fr_zret0 (v := (0 : Int32)) (Or.inl rfl) rfl rfl dd_Desk_runClause_85
          · refine fp_bipush (v := (-3 : Int32)) dd_Desk_runClause_86 (by decide) (fr_pc (pc' := 88) rfl ?_)
            refine fp_istore (i := 8) dd_Desk_runClause_88 (Nat.le_of_ble_eq_true rfl) (fun _ => c1_i rfl) (fr_to (pc' := 90) (env' := [some (sf_rv p0), some (sf_rv p1), some (.int p2), some (.int x1), some (.int x2), some (.int b3), some (.int x10), some (.int x12), some (.int (-3 : Int32))]) (stk' := []) rfl rfl rfl ?_)
            refine fp_iload_n (i := 3) (x := x1) dd_Desk_runClause_90 rfl rfl (fr_pc (pc' := 91) rfl ?_)
            refine fr_bnd (l1 := (fun (v20 : (Int32)) => sf_p 185 [some (sf_rv p0), some (sf_rv p1), some (.int p2), some (.int x1), some (.int x2), some (.int b3), some (.int x10), some (.int x12), some (.int v20)] [])) ?_ (fun v20 => ?_)
            · refine fp_tsw (ts := [124, 138, 152, 165, 176]) (t0 := 185) (cs := [((0 : Int32), 124), ((1 : Int32), 138), ((2 : Int32), 152), ((3 : Int32), 165), ((4 : Int32), 176)]) dd_Desk_runClause_91 (by decide) rfl ?_
              refine fr_sw (fun _ => ?_) (fun _ => ?_)
              · refine fp_aload_n (i := 0) (r := p0) dd_Desk_runClause_124 rfl rfl (fr_pc (pc' := 125) rfl ?_)
                refine fp_iconst (v := (0 : Int32)) dd_Desk_runClause_125 (by decide) (fr_pc (pc' := 126) rfl ?_)
                refine fp_iload (i := 6) (x := x10) dd_Desk_runClause_126 rfl (fr_pc (pc' := 128) rfl ?_)
                refine fp_iload (i := 7) (x := x12) dd_Desk_runClause_128 rfl (fr_pc (pc' := 130) rfl ?_)
                refine fr_callV (stk := []) (As := [.int (0 : Int32), .int x10, .int x12]) cl_1 (ok_Desk_buyTicket p0 (0 : Int32) x10 x12) mt_Desk_buyTicket rfl rfl sw_773 sw_774 sw_775 (by decide) (Nat.le_of_ble_eq_true rfl) dd_Desk_runClause_130 (fun x15 => fr_to (pc' := 133) (env' := [some (sf_rv p0), some (sf_rv p1), some (.int p2), some (.int x1), some (.int x2), some (.int b3), some (.int x10), some (.int x12), some (.int (-3 : Int32))]) (stk' := [.int x15]) rfl rfl rfl ?_)
                refine fp_istore (i := 8) dd_Desk_runClause_133 (Nat.le_of_ble_eq_true rfl) (fun _ => c1_i rfl) (fr_to (pc' := 135) (env' := [some (sf_rv p0), some (sf_rv p1), some (.int p2), some (.int x1), some (.int x2), some (.int b3), some (.int x10), some (.int x12), some (.int x15)]) (stk' := []) rfl rfl rfl ?_)
                refine fp_goto (tgt := 185) dd_Desk_runClause_135 rfl ?_
                exact fr_ret rfl
              · refine fr_sw (fun _ => ?_) (fun _ => ?_)
                · refine fp_aload_n (i := 0) (r := p0) dd_Desk_runClause_138 rfl rfl (fr_pc (pc' := 139) rfl ?_)
                  refine fp_iconst (v := (1 : Int32)) dd_Desk_runClause_139 (by decide) (fr_pc (pc' := 140) rfl ?_)
                  refine fp_iload (i := 6) (x := x10) dd_Desk_runClause_140 rfl (fr_pc (pc' := 142) rfl ?_)
                  refine fp_iload (i := 7) (x := x12) dd_Desk_runClause_142 rfl (fr_pc (pc' := 144) rfl ?_)
                  refine fr_callV (stk := []) (As := [.int (1 : Int32), .int x10, .int x12]) cl_1 (ok_Desk_buyTicket p0 (1 : Int32) x10 x12) mt_Desk_buyTicket rfl rfl sw_773 sw_774 sw_775 (by decide) (Nat.le_of_ble_eq_true rfl) dd_Desk_runClause_144 (fun x16 => fr_to (pc' := 147) (env' := [some (sf_rv p0), some (sf_rv p1), some (.int p2), some (.int x1), some (.int x2), some (.int b3), some (.int x10), some (.int x12), some (.int (-3 : Int32))]) (stk' := [.int x16]) rfl rfl rfl ?_)
                  refine fp_istore (i := 8) dd_Desk_runClause_147 (Nat.le_of_ble_eq_true rfl) (fun _ => c1_i rfl) (fr_to (pc' := 149) (env' := [some (sf_rv p0), some (sf_rv p1), some (.int p2), some (.int x1), some (.int x2), some (.int b3), some (.int x10), some (.int x12), some (.int x16)]) (stk' := []) rfl rfl rfl ?_)
                  refine fp_goto (tgt := 185) dd_Desk_runClause_149 rfl ?_
                  exact fr_ret rfl
                · refine fr_sw (fun _ => ?_) (fun _ => ?_)
                  · refine fp_aload_n (i := 0) (r := p0) dd_Desk_runClause_152 rfl rfl (fr_pc (pc' := 153) rfl ?_)
                    refine fp_iload (i := 6) (x := x10) dd_Desk_runClause_153 rfl (fr_pc (pc' := 155) rfl ?_)
                    refine fp_iload (i := 7) (x := x12) dd_Desk_runClause_155 rfl (fr_pc (pc' := 157) rfl ?_)
                    refine fr_callV (stk := []) (As := [.int x10, .int x12]) cl_1 (ok_Desk_rideTrain p0 x10 x12) mt_Desk_rideTrain rfl rfl sw_793 sw_794 sw_795 (by decide) (Nat.le_of_ble_eq_true rfl) dd_Desk_runClause_157 (fun x17 => fr_to (pc' := 160) (env' := [some (sf_rv p0), some (sf_rv p1), some (.int p2), some (.int x1), some (.int x2), some (.int b3), some (.int x10), some (.int x12), some (.int (-3 : Int32))]) (stk' := [.int x17]) rfl rfl rfl ?_)
                    refine fp_istore (i := 8) dd_Desk_runClause_160 (Nat.le_of_ble_eq_true rfl) (fun _ => c1_i rfl) (fr_to (pc' := 162) (env' := [some (sf_rv p0), some (sf_rv p1), some (.int p2), some (.int x1), some (.int x2), some (.int b3), some (.int x10), some (.int x12), some (.int x17)]) (stk' := []) rfl rfl rfl ?_)
                    refine fp_goto (tgt := 185) dd_Desk_runClause_162 rfl ?_
                    exact fr_ret rfl
                  · refine fr_sw (fun _ => ?_) (fun _ => ?_)
                    · refine fp_aload_n (i := 0) (r := p0) dd_Desk_runClause_165 rfl rfl (fr_pc (pc' := 166) rfl ?_)
                      refine fp_iload (i := 6) (x := x10) dd_Desk_runClause_166 rfl (fr_pc (pc' := 168) rfl ?_)
                      refine fr_callV (stk := []) (As := [.int x10]) cl_1 (ok_Desk_savePence p0 x10) mt_Desk_savePence rfl rfl sw_835 sw_836 sw_837 (by decide) (Nat.le_of_ble_eq_true rfl) dd_Desk_runClause_168 (fun x18 => fr_to (pc' := 171) (env' := [some (sf_rv p0), some (sf_rv p1), some (.int p2), some (.int x1), some (.int x2), some (.int b3), some (.int x10), some (.int x12), some (.int (-3 : Int32))]) (stk' := [.int x18]) rfl rfl rfl ?_)
                      refine fp_istore (i := 8) dd_Desk_runClause_171 (Nat.le_of_ble_eq_true rfl) (fun _ => c1_i rfl) (fr_to (pc' := 173) (env' := [some (sf_rv p0), some (sf_rv p1), some (.int p2), some (.int x1), some (.int x2), some (.int b3), some (.int x10), some (.int x12), some (.int x18)]) (stk' := []) rfl rfl rfl ?_)
                      refine fp_goto (tgt := 185) dd_Desk_runClause_173 rfl ?_
                      exact fr_ret rfl
                    · refine fr_sw (fun _ => ?_) (fun _ => ?_)
                      · refine fp_aload_n (i := 0) (r := p0) dd_Desk_runClause_176 rfl rfl (fr_pc (pc' := 177) rfl ?_)
                        refine fr_callV (stk := []) (As := []) cl_1 (ok_Desk_passDay p0) mt_Desk_passDay rfl rfl sw_841 sw_842 sw_843 (by decide) (Nat.le_of_ble_eq_true rfl) dd_Desk_runClause_177 (fun x19 => fr_to (pc' := 180) (env' := [some (sf_rv p0), some (sf_rv p1), some (.int p2), some (.int x1), some (.int x2), some (.int b3), some (.int x10), some (.int x12), some (.int (-3 : Int32))]) (stk' := [.int x19]) rfl rfl rfl ?_)
                        refine fp_istore (i := 8) dd_Desk_runClause_180 (Nat.le_of_ble_eq_true rfl) (fun _ => c1_i rfl) (fr_to (pc' := 182) (env' := [some (sf_rv p0), some (sf_rv p1), some (.int p2), some (.int x1), some (.int x2), some (.int b3), some (.int x10), some (.int x12), some (.int x19)]) (stk' := []) rfl rfl rfl ?_)
                        refine fp_goto (tgt := 185) dd_Desk_runClause_182 rfl ?_
                        exact fr_ret rfl
                      · refine fr_pc (pc' := 185) rfl ?_
                        exact fr_ret rfl
            · refine fp_iload (i := 8) (x := v20) dd_Desk_runClause_185 rfl (fr_pc (pc' := 187) rfl ?_)
              refine fr_if_ge (tgt := 192) dd_Desk_runClause_187 rfl (fun _ => ?_) (fun _ => ?_)
              · refine fp_aload_n (i := 0) (r := p0) dd_Desk_runClause_192 rfl rfl (fr_pc (pc' := 193) rfl ?_)
                refine fp_iload_n (i := 3) (x := x1) dd_Desk_runClause_193 rfl rfl (fr_pc (pc' := 194) rfl ?_)
                refine fp_iconst (v := (2 : Int32)) dd_Desk_runClause_194 (by decide) (fr_pc (pc' := 195) rfl ?_)
                refine fr_bnd (l1 := (fun (v24 : (Int32)) => sf_p 207 [some (sf_rv p0), some (sf_rv p1), some (.int p2), some (.int x1), some (.int x2), some (.int b3), some (.int x10), some (.int x12), some (.int v20)] [.int v24, sf_rv p0])) ?_ (fun v24 => ?_)
                · refine fr_icmp_ne (tgt := 203) dd_Desk_runClause_195 rfl (fun _ => ?_) (fun _ => ?_)
                  · refine fr_pc (pc' := 198) rfl ?_
                    refine fp_iload (i := 8) (x := v20) dd_Desk_runClause_198 rfl (fr_pc (pc' := 200) rfl ?_)
                    refine fp_goto (tgt := 207) dd_Desk_runClause_200 rfl ?_
                    exact fr_ret rfl
                  · refine fp_aload_n (i := 0) (r := p0) dd_Desk_runClause_203 rfl rfl (fr_pc (pc' := 204) rfl ?_)
                    refine fr_gI cl_1 7 (by decide) rfl sw_202 dd_Desk_runClause_204 (fun x23 => fr_pc (pc' := 207) rfl ?_)
                    exact fr_ret rfl
                · refine fr_pI cl_1 7 (by decide) rfl sw_202 rfl ⟨rfl, rfl⟩ dd_Desk_runClause_207 (fr_pc (pc' := 210) rfl ?_)
                  refine fp_aload_n (i := 0) (r := p0) dd_Desk_runClause_210 rfl rfl (fr_pc (pc' := 211) rfl ?_)
                  refine fp_dup_r dd_Desk_runClause_211 (fr_pc (pc' := 212) rfl ?_)
                  refine fr_gI cl_1 6 (by decide) rfl sw_200 dd_Desk_runClause_212 (fun x25 => fr_pc (pc' := 215) rfl ?_)
                  refine fp_iconst (v := (1 : Int32)) dd_Desk_runClause_215 (by decide) (fr_pc (pc' := 216) rfl ?_)
                  refine fp_iadd dd_Desk_runClause_216 (fr_pc (pc' := 217) rfl ?_)
                  refine fr_pI cl_1 6 (by decide) rfl sw_200 rfl ⟨rfl, rfl⟩ dd_Desk_runClause_217 (fr_pc (pc' := 220) rfl ?_)
                  refine fr_niinc (i := 5) (x := b3) (w := (1 : Int32)) dd_Desk_runClause_220 rfl (by decide) (Nat.le_of_ble_eq_true rfl) (fun _ => c1_i rfl) (fun y26 => fr_to (pc' := 223) (env' := [some (sf_rv p0), some (sf_rv p1), some (.int p2), some (.int x1), some (.int x2), some (.int y26), some (.int x10), some (.int x12), some (.int v20)]) (stk' := []) rfl rfl rfl ?_)
                  refine fp_goto (tgt := 18) dd_Desk_runClause_223 rfl ?_
                  refine fr_wk [true, true, true, true, true, true, false, false, false] ?_
                  exact fr_ret rfl
              · refine fr_pc (pc' := 190) rfl ?_
                refine fp_iconst (v := (0 : Int32)) dd_Desk_runClause_190 (by decide) (fr_pc (pc' := 191) rfl ?_)
                exact fr_zret0 (v := (0 : Int32)) (Or.inl rfl) rfl rfl dd_Desk_runClause_191
      · refine fr_pc (pc' := 43) rfl ?_
        refine fp_goto (tgt := 220) dd_Desk_runClause_43 rfl ?_
        refine fr_niinc (i := 5) (x := b3) (w := (1 : Int32)) dd_Desk_runClause_220 rfl (by decide) (Nat.le_of_ble_eq_true rfl) (fun _ => c1_i rfl) (fun y27 => fr_to (pc' := 223) (env' := [some (sf_rv p0), some (sf_rv p1), some (.int p2), some (.int x1), some (.int x2), some (.int y27), none, none, none]) (stk' := []) rfl rfl rfl ?_)
        refine fp_goto (tgt := 18) dd_Desk_runClause_223 rfl ?_
        exact fr_ret rfl
  · refine fp_iconst (v := (1 : Int32)) dd_Desk_runClause_226 (by decide) (fr_pc (pc' := 227) rfl ?_)
    exact fr_zret0 (v := (1 : Int32)) (Or.inr rfl) rfl rfl dd_Desk_runClause_227
theorem mt_Desk_takeBack : sf_Mt ({ cls := "SplitFares$Desk", name := "takeBack", desc := "()V" } : Jvm.MethodName) prog_2_method_7_code 1 none 0 := ⟨sw_852, sw_2, ⟨by decide, by decide, by decide +kernel⟩, by decide⟩
theorem dd_Desk_takeBack_0 : decode prog_2_method_7_code 0 = .ok (.aload_n 0, 1) := by decide +kernel
theorem dd_Desk_takeBack_1 : decode prog_2_method_7_code 1 = .ok (.getfield 12, 3) := by decide +kernel
theorem dd_Desk_takeBack_4 : decode prog_2_method_7_code 4 = .ok (.getfield 60, 3) := by decide +kernel
theorem dd_Desk_takeBack_7 : decode prog_2_method_7_code 7 = .ok (.aload_n 0, 1) := by decide +kernel
theorem dd_Desk_takeBack_8 : decode prog_2_method_7_code 8 = .ok (.getfield 38, 3) := by decide +kernel
theorem dd_Desk_takeBack_11 : decode prog_2_method_7_code 11 = .ok (.invokevirtual 118, 3) := by decide +kernel
theorem dd_Desk_takeBack_14 : decode prog_2_method_7_code 14 = .ok (.aload_n 0, 1) := by decide +kernel
theorem dd_Desk_takeBack_15 : decode prog_2_method_7_code 15 = .ok (.getfield 28, 3) := by decide +kernel
theorem dd_Desk_takeBack_18 : decode prog_2_method_7_code 18 = .ok (.aload_n 0, 1) := by decide +kernel
theorem dd_Desk_takeBack_19 : decode prog_2_method_7_code 19 = .ok (.getfield 32, 3) := by decide +kernel
theorem dd_Desk_takeBack_22 : decode prog_2_method_7_code 22 = .ok (.invokevirtual 122, 3) := by decide +kernel
theorem dd_Desk_takeBack_25 : decode prog_2_method_7_code 25 = .ok (.return_, 1) := by decide +kernel
def jx_Desk_takeBack (p0 : Option Nat) : sf_M (Unit) :=
  sf_bnd (sf_gR 1 0 p0) fun x1 =>
  sf_bnd (sf_gR 4 0 x1) fun x2 =>
  sf_bnd (sf_gR 1 4 p0) fun x3 =>
  sf_bnd (sf_rc 5 x2 (jx_Pocket_copyFrom x2 x3)) fun _ =>
  sf_bnd (sf_gR 1 2 p0) fun x5 =>
  sf_bnd (sf_gR 1 3 p0) fun x6 =>
  sf_bnd (sf_rc 2 x5 (jx_Log_copyFrom x5 x6)) fun _ =>
  sf_ret ()
set_option maxRecDepth 20000 in
set_option maxHeartbeats 4000000 in
theorem ok_Desk_takeBack (p0 : Option Nat) : sf_Ok ({ cls := "SplitFares$Desk", name := "takeBack", desc := "()V" } : Jvm.MethodName) prog_2_method_7_code 1 none 3 [sf_rv p0] (jx_Desk_takeBack p0) (fun _ => none) := by
  refine sf_Ok.of (env := [some (sf_rv p0)]) (plainFor_of_name (by decide)) [false] (fun G => ⟨pk_r, trivial⟩) (Nat.le_of_ble_eq_true rfl) rfl (fun X => ?_)
  unfold jx_Desk_takeBack
  refine fp_aload_n (i := 0) (r := p0) dd_Desk_takeBack_0 rfl rfl (fr_pc (pc' := 1) rfl ?_)
  refine fr_gR cl_1 0 (by decide) rfl sw_191 dd_Desk_takeBack_1 (fun x1 => fr_pc (pc' := 4) rfl ?_)
  refine fr_gR cl_4 0 (by decide) rfl sw_86 dd_Desk_takeBack_4 (fun x2 => fr_pc (pc' := 7) rfl ?_)
  refine fp_aload_n (i := 0) (r := p0) dd_Desk_takeBack_7 rfl rfl (fr_pc (pc' := 8) rfl ?_)
  refine fr_gR cl_1 4 (by decide) rfl sw_198 dd_Desk_takeBack_8 (fun x3 => fr_pc (pc' := 11) rfl ?_)
  refine fr_callV (stk := []) (As := [sf_rv x3]) cl_5 (ok_Pocket_copyFrom x2 x3) mt_Pocket_copyFrom rfl rfl sw_746 sw_747 sw_748 (by decide) (Nat.le_of_ble_eq_true rfl) dd_Desk_takeBack_11 (fun u4 => fr_to (pc' := 14) (env' := [some (sf_rv p0)]) (stk' := []) rfl rfl rfl ?_)
  refine fp_aload_n (i := 0) (r := p0) dd_Desk_takeBack_14 rfl rfl (fr_pc (pc' := 15) rfl ?_)
  refine fr_gR cl_1 2 (by decide) rfl sw_195 dd_Desk_takeBack_15 (fun x5 => fr_pc (pc' := 18) rfl ?_)
  refine fp_aload_n (i := 0) (r := p0) dd_Desk_takeBack_18 rfl rfl (fr_pc (pc' := 19) rfl ?_)
  refine fr_gR cl_1 3 (by decide) rfl sw_197 dd_Desk_takeBack_19 (fun x6 => fr_pc (pc' := 22) rfl ?_)
  refine fr_callV (stk := []) (As := [sf_rv x6]) cl_2 (ok_Log_copyFrom x5 x6) mt_Log_copyFrom rfl rfl sw_751 sw_752 sw_753 (by decide) (Nat.le_of_ble_eq_true rfl) dd_Desk_takeBack_22 (fun u7 => fr_to (pc' := 25) (env' := [some (sf_rv p0)]) (stk' := []) rfl rfl rfl ?_)
  exact fr_vret rfl rfl dd_Desk_takeBack_25
theorem mt_Desk_drawAfter : sf_Mt ({ cls := "SplitFares$Desk", name := "drawAfter", desc := "(I)I" } : Jvm.MethodName) prog_2_method_11_code 1 (some .int) 1 := ⟨sw_1033, sw_2, ⟨by decide, by decide, by decide +kernel⟩, by decide⟩
theorem dd_Desk_drawAfter_0 : decode prog_2_method_11_code 0 = .ok (.iload_n 0, 1) := by decide +kernel
theorem dd_Desk_drawAfter_1 : decode prog_2_method_11_code 1 = .ok (.sipush 1103, 3) := by decide +kernel
theorem dd_Desk_drawAfter_4 : decode prog_2_method_11_code 4 = .ok (.imul, 1) := by decide +kernel
theorem dd_Desk_drawAfter_5 : decode prog_2_method_11_code 5 = .ok (.sipush 12345, 3) := by decide +kernel
theorem dd_Desk_drawAfter_8 : decode prog_2_method_11_code 8 = .ok (.iadd, 1) := by decide +kernel
theorem dd_Desk_drawAfter_9 : decode prog_2_method_11_code 9 = .ok (.ldc 175, 2) := by decide +kernel
theorem dd_Desk_drawAfter_11 : decode prog_2_method_11_code 11 = .ok (.irem, 1) := by decide +kernel
theorem dd_Desk_drawAfter_12 : decode prog_2_method_11_code 12 = .ok (.ireturn, 1) := by decide +kernel
def jx_Desk_drawAfter (p0 : Int32) : sf_M (Int32) :=
  sf_ret (((p0 * (1103 : Int32)) + (12345 : Int32)) - ((p0 * (1103 : Int32)) + (12345 : Int32)) / (1000003 : Int32) * (1000003 : Int32))
set_option maxRecDepth 20000 in
set_option maxHeartbeats 4000000 in
theorem ok_Desk_drawAfter (p0 : Int32) : sf_Ok ({ cls := "SplitFares$Desk", name := "drawAfter", desc := "(I)I" } : Jvm.MethodName) prog_2_method_11_code 1 (some .int) 0 [.int p0] (jx_Desk_drawAfter p0) (fun r => some (.int r)) := by
  refine sf_Ok.of (env := [some (.int p0)]) (plainFor_of_name (by decide)) [false] (fun G => ⟨pk_i, trivial⟩) (Nat.le_of_ble_eq_true rfl) rfl (fun X => ?_)
  unfold jx_Desk_drawAfter
  refine fp_iload_n (i := 0) (x := p0) dd_Desk_drawAfter_0 rfl rfl (fr_pc (pc' := 1) rfl ?_)
  refine fp_sipush (v := (1103 : Int32)) dd_Desk_drawAfter_1 (by decide) (fr_pc (pc' := 4) rfl ?_)
  refine fp_imul dd_Desk_drawAfter_4 (fr_pc (pc' := 5) rfl ?_)
  refine fp_sipush (v := (12345 : Int32)) dd_Desk_drawAfter_5 (by decide) (fr_pc (pc' := 8) rfl ?_)
  refine fp_iadd dd_Desk_drawAfter_8 (fr_pc (pc' := 9) rfl ?_)
  refine fp_ldc (v := (1000003 : Int32)) dd_Desk_drawAfter_9 sw_1034 (fr_pc (pc' := 11) rfl ?_)
  refine fp_irem0 dd_Desk_drawAfter_11 (by decide) (fr_pc (pc' := 12) rfl ?_)
  exact fr_iret (v := (((p0 * (1103 : Int32)) + (12345 : Int32)) - ((p0 * (1103 : Int32)) + (12345 : Int32)) / (1000003 : Int32) * (1000003 : Int32))) rfl rfl dd_Desk_drawAfter_12
theorem mt_Desk_drawMonths : sf_Mt ({ cls := "SplitFares$Desk", name := "drawMonths", desc := "(II)I" } : Jvm.MethodName) prog_2_method_10_code 8 (some .int) 2 := ⟨sw_1030, sw_2, ⟨by decide, by decide, by decide +kernel⟩, by decide⟩
theorem dd_Desk_drawMonths_0 : decode prog_2_method_10_code 0 = .ok (.iconst 0, 1) := by decide +kernel
theorem dd_Desk_drawMonths_1 : decode prog_2_method_10_code 1 = .ok (.istore_n 3, 1) := by decide +kernel
theorem dd_Desk_drawMonths_2 : decode prog_2_method_10_code 2 = .ok (.iload_n 1, 1) := by decide +kernel
theorem dd_Desk_drawMonths_3 : decode prog_2_method_10_code 3 = .ok (.istore 4, 2) := by decide +kernel
theorem dd_Desk_drawMonths_5 : decode prog_2_method_10_code 5 = .ok (.iconst 0, 1) := by decide +kernel
theorem dd_Desk_drawMonths_6 : decode prog_2_method_10_code 6 = .ok (.istore 5, 2) := by decide +kernel
theorem dd_Desk_drawMonths_8 : decode prog_2_method_10_code 8 = .ok (.iload 5, 2) := by decide +kernel
theorem dd_Desk_drawMonths_10 : decode prog_2_method_10_code 10 = .ok (.iload_n 2, 1) := by decide +kernel
theorem dd_Desk_drawMonths_11 : decode prog_2_method_10_code 11 = .ok (.if_icmp .ge 172, 3) := by decide +kernel
theorem dd_Desk_drawMonths_14 : decode prog_2_method_10_code 14 = .ok (.aload_n 0, 1) := by decide +kernel
theorem dd_Desk_drawMonths_15 : decode prog_2_method_10_code 15 = .ok (.getfield 12, 3) := by decide +kernel
theorem dd_Desk_drawMonths_18 : decode prog_2_method_10_code 18 = .ok (.getfield 60, 3) := by decide +kernel
theorem dd_Desk_drawMonths_21 : decode prog_2_method_10_code 21 = .ok (.getfield 111, 3) := by decide +kernel
theorem dd_Desk_drawMonths_24 : decode prog_2_method_10_code 24 = .ok (.sipush 999, 3) := by decide +kernel
theorem dd_Desk_drawMonths_27 : decode prog_2_method_10_code 27 = .ok (.if_icmp .ge 156, 3) := by decide +kernel
theorem dd_Desk_drawMonths_30 : decode prog_2_method_10_code 30 = .ok (.aload_n 0, 1) := by decide +kernel
theorem dd_Desk_drawMonths_31 : decode prog_2_method_10_code 31 = .ok (.getfield 12, 3) := by decide +kernel
theorem dd_Desk_drawMonths_34 : decode prog_2_method_10_code 34 = .ok (.getfield 166, 3) := by decide +kernel
theorem dd_Desk_drawMonths_37 : decode prog_2_method_10_code 37 = .ok (.ifCond .le 146, 3) := by decide +kernel
theorem dd_Desk_drawMonths_40 : decode prog_2_method_10_code 40 = .ok (.iload 4, 2) := by decide +kernel
theorem dd_Desk_drawMonths_42 : decode prog_2_method_10_code 42 = .ok (.invokestatic 169, 3) := by decide +kernel
theorem dd_Desk_drawMonths_45 : decode prog_2_method_10_code 45 = .ok (.istore 4, 2) := by decide +kernel
theorem dd_Desk_drawMonths_47 : decode prog_2_method_10_code 47 = .ok (.iload 4, 2) := by decide +kernel
theorem dd_Desk_drawMonths_49 : decode prog_2_method_10_code 49 = .ok (.aload_n 0, 1) := by decide +kernel
theorem dd_Desk_drawMonths_50 : decode prog_2_method_10_code 50 = .ok (.getfield 12, 3) := by decide +kernel
theorem dd_Desk_drawMonths_53 : decode prog_2_method_10_code 53 = .ok (.getfield 166, 3) := by decide +kernel
theorem dd_Desk_drawMonths_56 : decode prog_2_method_10_code 56 = .ok (.irem, 1) := by decide +kernel
theorem dd_Desk_drawMonths_57 : decode prog_2_method_10_code 57 = .ok (.istore 6, 2) := by decide +kernel
theorem dd_Desk_drawMonths_59 : decode prog_2_method_10_code 59 = .ok (.iload 4, 2) := by decide +kernel
theorem dd_Desk_drawMonths_61 : decode prog_2_method_10_code 61 = .ok (.invokestatic 169, 3) := by decide +kernel
theorem dd_Desk_drawMonths_64 : decode prog_2_method_10_code 64 = .ok (.istore 4, 2) := by decide +kernel
theorem dd_Desk_drawMonths_66 : decode prog_2_method_10_code 66 = .ok (.iload 4, 2) := by decide +kernel
theorem dd_Desk_drawMonths_68 : decode prog_2_method_10_code 68 = .ok (.bipush 8, 2) := by decide +kernel
theorem dd_Desk_drawMonths_70 : decode prog_2_method_10_code 70 = .ok (.irem, 1) := by decide +kernel
theorem dd_Desk_drawMonths_71 : decode prog_2_method_10_code 71 = .ok (.istore 7, 2) := by decide +kernel
theorem dd_Desk_drawMonths_73 : decode prog_2_method_10_code 73 = .ok (.iload 4, 2) := by decide +kernel
theorem dd_Desk_drawMonths_75 : decode prog_2_method_10_code 75 = .ok (.invokestatic 169, 3) := by decide +kernel
theorem dd_Desk_drawMonths_78 : decode prog_2_method_10_code 78 = .ok (.istore 4, 2) := by decide +kernel
theorem dd_Desk_drawMonths_80 : decode prog_2_method_10_code 80 = .ok (.iload 4, 2) := by decide +kernel
theorem dd_Desk_drawMonths_82 : decode prog_2_method_10_code 82 = .ok (.iconst 4, 1) := by decide +kernel
theorem dd_Desk_drawMonths_83 : decode prog_2_method_10_code 83 = .ok (.irem, 1) := by decide +kernel
theorem dd_Desk_drawMonths_84 : decode prog_2_method_10_code 84 = .ok (.tableswitch 88 0 2 #[28, 49, 70], 28) := by decide +kernel
theorem dd_Desk_drawMonths_172 : decode prog_2_method_10_code 172 = .ok (.aload_n 0, 1) := by decide +kernel
theorem dd_Desk_drawMonths_173 : decode prog_2_method_10_code 173 = .ok (.invokevirtual 148, 3) := by decide +kernel
theorem dd_Desk_drawMonths_176 : decode prog_2_method_10_code 176 = .ok (.pop, 1) := by decide +kernel
theorem dd_Desk_drawMonths_154 : decode prog_2_method_10_code 154 = .ok (.iload_n 3, 1) := by decide +kernel
theorem dd_Desk_drawMonths_155 : decode prog_2_method_10_code 155 = .ok (.iconst 0, 1) := by decide +kernel
theorem dd_Desk_drawMonths_156 : decode prog_2_method_10_code 156 = .ok (.aload_n 0, 1) := by decide +kernel
theorem dd_Desk_drawMonths_157 : decode prog_2_method_10_code 157 = .ok (.iload 6, 2) := by decide +kernel
theorem dd_Desk_drawMonths_159 : decode prog_2_method_10_code 159 = .ok (.iload 7, 2) := by decide +kernel
theorem dd_Desk_drawMonths_161 : decode prog_2_method_10_code 161 = .ok (.invokevirtual 141, 3) := by decide +kernel
theorem dd_Desk_drawMonths_164 : decode prog_2_method_10_code 164 = .ok (.invokestatic 172, 3) := by decide +kernel
theorem dd_Desk_drawMonths_167 : decode prog_2_method_10_code 167 = .ok (.iadd, 1) := by decide +kernel
theorem dd_Desk_drawMonths_168 : decode prog_2_method_10_code 168 = .ok (.istore_n 3, 1) := by decide +kernel
theorem dd_Desk_drawMonths_169 : decode prog_2_method_10_code 169 = .ok (.goto 8, 3) := by decide +kernel
theorem dd_Desk_drawMonths_133 : decode prog_2_method_10_code 133 = .ok (.aload_n 0, 1) := by decide +kernel
theorem dd_Desk_drawMonths_134 : decode prog_2_method_10_code 134 = .ok (.iconst 1, 1) := by decide +kernel
theorem dd_Desk_drawMonths_135 : decode prog_2_method_10_code 135 = .ok (.aload_n 0, 1) := by decide +kernel
theorem dd_Desk_drawMonths_136 : decode prog_2_method_10_code 136 = .ok (.getfield 12, 3) := by decide +kernel
theorem dd_Desk_drawMonths_139 : decode prog_2_method_10_code 139 = .ok (.getfield 60, 3) := by decide +kernel
theorem dd_Desk_drawMonths_142 : decode prog_2_method_10_code 142 = .ok (.getfield 92, 3) := by decide +kernel
theorem dd_Desk_drawMonths_145 : decode prog_2_method_10_code 145 = .ok (.iload 7, 2) := by decide +kernel
theorem dd_Desk_drawMonths_147 : decode prog_2_method_10_code 147 = .ok (.invokevirtual 138, 3) := by decide +kernel
theorem dd_Desk_drawMonths_150 : decode prog_2_method_10_code 150 = .ok (.pop, 1) := by decide +kernel
theorem dd_Desk_drawMonths_151 : decode prog_2_method_10_code 151 = .ok (.goto 26, 3) := by decide +kernel
theorem dd_Desk_drawMonths_112 : decode prog_2_method_10_code 112 = .ok (.aload_n 0, 1) := by decide +kernel
theorem dd_Desk_drawMonths_113 : decode prog_2_method_10_code 113 = .ok (.iconst 0, 1) := by decide +kernel
theorem dd_Desk_drawMonths_114 : decode prog_2_method_10_code 114 = .ok (.aload_n 0, 1) := by decide +kernel
theorem dd_Desk_drawMonths_115 : decode prog_2_method_10_code 115 = .ok (.getfield 12, 3) := by decide +kernel
theorem dd_Desk_drawMonths_118 : decode prog_2_method_10_code 118 = .ok (.getfield 60, 3) := by decide +kernel
theorem dd_Desk_drawMonths_121 : decode prog_2_method_10_code 121 = .ok (.getfield 92, 3) := by decide +kernel
theorem dd_Desk_drawMonths_124 : decode prog_2_method_10_code 124 = .ok (.iload 7, 2) := by decide +kernel
theorem dd_Desk_drawMonths_126 : decode prog_2_method_10_code 126 = .ok (.invokevirtual 138, 3) := by decide +kernel
theorem dd_Desk_drawMonths_129 : decode prog_2_method_10_code 129 = .ok (.pop, 1) := by decide +kernel
theorem dd_Desk_drawMonths_130 : decode prog_2_method_10_code 130 = .ok (.goto 47, 3) := by decide +kernel
theorem dd_Desk_drawMonths_177 : decode prog_2_method_10_code 177 = .ok (.iinc 5 1, 3) := by decide +kernel
theorem dd_Desk_drawMonths_180 : decode prog_2_method_10_code 180 = .ok (.goto (-172), 3) := by decide +kernel
theorem dd_Desk_drawMonths_183 : decode prog_2_method_10_code 183 = .ok (.iload_n 3, 1) := by decide +kernel
theorem dd_Desk_drawMonths_184 : decode prog_2_method_10_code 184 = .ok (.ireturn, 1) := by decide +kernel
def jx_Desk_drawMonths (p0 : Option Nat) (p1 : Int32) (p2 : Int32) : sf_M (Int32) :=
  sf_bnd (sf_loop (β := (Int32 × Int32 × Int32)) (γ := (Int32)) (fun b1 =>
  if p2 ≤ b1.2.2 then (
  sf_ret (.inr b1.1)
  ) else (
  sf_bnd (sf_gR 1 0 p0) fun x3 =>
  sf_bnd (sf_gR 4 0 x3) fun x4 =>
  sf_bnd (sf_gI 5 3 x4) fun x5 =>
  if (999 : Int32) ≤ x5 then (
  sf_ret (.inr b1.1)
  ) else (
  sf_bnd (sf_gR 1 0 p0) fun x7 =>
  sf_bnd (sf_gI 4 1 x7) fun x8 =>
  if x8 ≤ 0 then (
  sf_ret (.inr b1.1)
  ) else (
  sf_bnd (jx_Desk_drawAfter b1.2.1) fun x10 =>
  sf_bnd (sf_gR 1 0 p0) fun x11 =>
  sf_bnd (sf_gI 4 1 x11) fun x12 =>
  sf_bnd (sf_rmI x10 x12) fun x13 =>
  sf_bnd (jx_Desk_drawAfter x10) fun x14 =>
  sf_bnd (sf_ret ((x14 - x14 / (8 : Int32) * (8 : Int32)))) fun y15 =>
  sf_bnd (jx_Desk_drawAfter x14) fun x16 =>
  if (x16 - x16 / (4 : Int32) * (4 : Int32)) = (0 : Int32) then (
  sf_bnd (sf_gR 1 0 p0) fun x17 =>
  sf_bnd (sf_gR 4 0 x17) fun x18 =>
  sf_bnd (sf_gI 5 2 x18) fun x19 =>
  sf_bnd (sf_rc 1 p0 (jx_Desk_buyTicket p0 (0 : Int32) x19 y15)) fun x20 =>
  sf_bnd (sf_ret (b1.2.2 + (1 : Int32))) fun y21 =>
  sf_ret (.inl (b1.1, x16, y21))
  ) else (
  if (x16 - x16 / (4 : Int32) * (4 : Int32)) = (1 : Int32) then (
  sf_bnd (sf_gR 1 0 p0) fun x22 =>
  sf_bnd (sf_gR 4 0 x22) fun x23 =>
  sf_bnd (sf_gI 5 2 x23) fun x24 =>
  sf_bnd (sf_rc 1 p0 (jx_Desk_buyTicket p0 (1 : Int32) x24 y15)) fun x25 =>
  sf_bnd (sf_ret (b1.2.2 + (1 : Int32))) fun y26 =>
  sf_ret (.inl (b1.1, x16, y26))
  ) else (
  if (x16 - x16 / (4 : Int32) * (4 : Int32)) = (2 : Int32) then (
  sf_bnd (sf_rc 1 p0 (jx_Desk_rideTrain p0 x13 y15)) fun x27 =>
  sf_bnd (jx_Math_max (0 : Int32) x27) fun x28 =>
  sf_bnd (sf_ret ((b1.1 + x28))) fun y29 =>
  sf_bnd (sf_ret (b1.2.2 + (1 : Int32))) fun y30 =>
  sf_ret (.inl (y29, x16, y30))
  ) else (
  sf_bnd (sf_rc 1 p0 (jx_Desk_passDay p0)) fun x31 =>
  sf_bnd (sf_ret (b1.2.2 + (1 : Int32))) fun y32 =>
  sf_ret (.inl (b1.1, x16, y32))
  )
  )
  )
  )
  )
  )
  ) sf_fuel ((0 : Int32), p1, (0 : Int32))) (fun e33 =>
  sf_ret e33
  )
set_option maxRecDepth 20000 in
set_option maxHeartbeats 4000000 in
theorem ok_Desk_drawMonths (p0 : Option Nat) (p1 : Int32) (p2 : Int32) : sf_Ok ({ cls := "SplitFares$Desk", name := "drawMonths", desc := "(II)I" } : Jvm.MethodName) prog_2_method_10_code 8 (some .int) 5 [sf_rv p0, .int p1, .int p2] (jx_Desk_drawMonths p0 p1 p2) (fun r => some (.int r)) := by
  refine sf_Ok.of (env := [some (sf_rv p0), some (.int p1), some (.int p2), none, none, none, none, none]) (plainFor_of_name (by decide)) [false, false, false] (fun G => ⟨pk_r, pk_i, pk_i, trivial⟩) (Nat.le_of_ble_eq_true rfl) rfl (fun X => ?_)
  unfold jx_Desk_drawMonths
  refine fp_iconst (v := (0 : Int32)) dd_Desk_drawMonths_0 (by decide) (fr_pc (pc' := 1) rfl ?_)
  refine fp_istore_n (i := 3) dd_Desk_drawMonths_1 rfl (Nat.le_of_ble_eq_true rfl) (fun _ => c1_i rfl) (fr_to (pc' := 2) (env' := [some (sf_rv p0), some (.int p1), some (.int p2), some (.int (0 : Int32)), none, none, none, none]) (stk' := []) rfl rfl rfl ?_)
  refine fp_iload_n (i := 1) (x := p1) dd_Desk_drawMonths_2 rfl rfl (fr_pc (pc' := 3) rfl ?_)
  refine fp_istore (i := 4) dd_Desk_drawMonths_3 (Nat.le_of_ble_eq_true rfl) (fun _ => c1_i rfl) (fr_to (pc' := 5) (env' := [some (sf_rv p0), some (.int p1), some (.int p2), some (.int (0 : Int32)), some (.int p1), none, none, none]) (stk' := []) rfl rfl rfl ?_)
  refine fp_iconst (v := (0 : Int32)) dd_Desk_drawMonths_5 (by decide) (fr_pc (pc' := 6) rfl ?_)
  refine fp_istore (i := 5) dd_Desk_drawMonths_6 (Nat.le_of_ble_eq_true rfl) (fun _ => c1_i rfl) (fr_to (pc' := 8) (env' := [some (sf_rv p0), some (.int p1), some (.int p2), some (.int (0 : Int32)), some (.int p1), some (.int (0 : Int32)), none, none]) (stk' := []) rfl rfl rfl ?_)
  refine fr_to (pc' := 8) (env' := [some (sf_rv p0), some (.int p1), some (.int p2), some (.int (0 : Int32)), some (.int p1), some (.int (0 : Int32)), none, none]) (stk' := []) rfl rfl rfl ?_
  refine fr_bnd (l1 := (fun (e33 : (Int32)) => sf_p 183 [some (sf_rv p0), some (.int p1), some (.int p2), some (.int e33), none, none, none, none] [])) (fr_loop (Lb := (fun (b1 : (Int32 × Int32 × Int32)) => sf_p 8 [some (sf_rv p0), some (.int p1), some (.int p2), some (.int b1.1), some (.int b1.2.1), some (.int b1.2.2), none, none] [])) (fun b1 => ?_) _ _) (fun e33 => ?_)
  · refine fp_iload (i := 5) (x := b1.2.2) dd_Desk_drawMonths_8 rfl (fr_pc (pc' := 10) rfl ?_)
    refine fp_iload_n (i := 2) (x := p2) dd_Desk_drawMonths_10 rfl rfl (fr_pc (pc' := 11) rfl ?_)
    refine fr_icmp_ge (tgt := 183) dd_Desk_drawMonths_11 rfl (fun _ => ?_) (fun _ => ?_)
    · refine fr_wk [true, true, true, true, false, false, false, false] ?_
      exact fr_ret rfl
    · refine fr_pc (pc' := 14) rfl ?_
      refine fp_aload_n (i := 0) (r := p0) dd_Desk_drawMonths_14 rfl rfl (fr_pc (pc' := 15) rfl ?_)
      refine fr_gR cl_1 0 (by decide) rfl sw_191 dd_Desk_drawMonths_15 (fun x3 => fr_pc (pc' := 18) rfl ?_)
      refine fr_gR cl_4 0 (by decide) rfl sw_86 dd_Desk_drawMonths_18 (fun x4 => fr_pc (pc' := 21) rfl ?_)
      refine fr_gI cl_5 3 (by decide) rfl sw_55 dd_Desk_drawMonths_21 (fun x5 => fr_pc (pc' := 24) rfl ?_)
      refine fp_sipush (v := (999 : Int32)) dd_Desk_drawMonths_24 (by decide) (fr_pc (pc' := 27) rfl ?_)
      refine fr_icmp_ge (tgt := 183) dd_Desk_drawMonths_27 rfl (fun _ => ?_) (fun _ => ?_)
      · refine fr_wk [true, true, true, true, false, false, false, false] ?_
        exact fr_ret rfl
      · refine fr_pc (pc' := 30) rfl ?_
        refine fp_aload_n (i := 0) (r := p0) dd_Desk_drawMonths_30 rfl rfl (fr_pc (pc' := 31) rfl ?_)
        refine fr_gR cl_1 0 (by decide) rfl sw_191 dd_Desk_drawMonths_31 (fun x7 => fr_pc (pc' := 34) rfl ?_)
        refine fr_gI cl_4 1 (by decide) rfl sw_90 dd_Desk_drawMonths_34 (fun x8 => fr_pc (pc' := 37) rfl ?_)
        refine fr_if_le (tgt := 183) dd_Desk_drawMonths_37 rfl (fun _ => ?_) (fun _ => ?_)
        · refine fr_wk [true, true, true, true, false, false, false, false] ?_
          exact fr_ret rfl
        · refine fr_pc (pc' := 40) rfl ?_
          refine fp_iload (i := 4) (x := b1.2.1) dd_Desk_drawMonths_40 rfl (fr_pc (pc' := 42) rfl ?_)
          refine fr_callS (stk := []) (ok_Desk_drawAfter b1.2.1) mt_Desk_drawAfter rfl rfl sw_1031 sw_1032 (by decide) (Nat.le_of_ble_eq_true rfl) dd_Desk_drawMonths_42 (fun x10 => fr_to (pc' := 45) (env' := [some (sf_rv p0), some (.int p1), some (.int p2), some (.int b1.1), some (.int b1.2.1), some (.int b1.2.2), none, none]) (stk' := [.int x10]) rfl rfl rfl ?_)
          refine fp_istore (i := 4) dd_Desk_drawMonths_45 (Nat.le_of_ble_eq_true rfl) (fun _ => c1_i rfl) (fr_to (pc' := 47) (env' := [some (sf_rv p0), some (.int p1), some (.int p2), some (.int b1.1), some (.int x10), some (.int b1.2.2), none, none]) (stk' := []) rfl rfl rfl ?_)
          refine fp_iload (i := 4) (x := x10) dd_Desk_drawMonths_47 rfl (fr_pc (pc' := 49) rfl ?_)
          refine fp_aload_n (i := 0) (r := p0) dd_Desk_drawMonths_49 rfl rfl (fr_pc (pc' := 50) rfl ?_)
          refine fr_gR cl_1 0 (by decide) rfl sw_191 dd_Desk_drawMonths_50 (fun x11 => fr_pc (pc' := 53) rfl ?_)
          refine fr_gI cl_4 1 (by decide) rfl sw_90 dd_Desk_drawMonths_53 (fun x12 => fr_pc (pc' := 56) rfl ?_)
          refine fr_rmI dd_Desk_drawMonths_56 (fun x13 => fr_pc (pc' := 57) rfl ?_)
          refine fp_istore (i := 6) dd_Desk_drawMonths_57 (Nat.le_of_ble_eq_true rfl) (fun _ => c1_i rfl) (fr_to (pc' := 59) (env' := [some (sf_rv p0), some (.int p1), some (.int p2), some (.int b1.1), some (.int x10), some (.int b1.2.2), some (.int x13), none]) (stk' := []) rfl rfl rfl ?_)
          refine fp_iload (i := 4) (x := x10) dd_Desk_drawMonths_59 rfl (fr_pc (pc' := 61) rfl ?_)
          refine fr_callS (stk := []) (ok_Desk_drawAfter x10) mt_Desk_drawAfter rfl rfl sw_1031 sw_1032 (by decide) (Nat.le_of_ble_eq_true rfl) dd_Desk_drawMonths_61 (fun x14 => fr_to (pc' := 64) (env' := [some (sf_rv p0), some (.int p1), some (.int p2), some (.int b1.1), some (.int x10), some (.int b1.2.2), some (.int x13), none]) (stk' := [.int x14]) rfl rfl rfl ?_)
          refine fp_istore (i := 4) dd_Desk_drawMonths_64 (Nat.le_of_ble_eq_true rfl) (fun _ => c1_i rfl) (fr_to (pc' := 66) (env' := [some (sf_rv p0), some (.int p1), some (.int p2), some (.int b1.1), some (.int x14), some (.int b1.2.2), some (.int x13), none]) (stk' := []) rfl rfl rfl ?_)
          refine fp_iload (i := 4) (x := x14) dd_Desk_drawMonths_66 rfl (fr_pc (pc' := 68) rfl ?_)
          refine fp_bipush (v := (8 : Int32)) dd_Desk_drawMonths_68 (by decide) (fr_pc (pc' := 70) rfl ?_)
          refine fp_irem0 dd_Desk_drawMonths_70 (by decide) (fr_pc (pc' := 71) rfl ?_)
          refine fr_nistore (i := 7) dd_Desk_drawMonths_71 (Nat.le_of_ble_eq_true rfl) (fun _ => c1_i rfl) (fun y15 => fr_to (pc' := 73) (env' := [some (sf_rv p0), some (.int p1), some (.int p2), some (.int b1.1), some (.int x14), some (.int b1.2.2), some (.int x13), some (.int y15)]) (stk' := []) rfl rfl rfl ?_)
          refine fp_iload (i := 4) (x := x14) dd_Desk_drawMonths_73 rfl (fr_pc (pc' := 75) rfl ?_)
          refine fr_callS (stk := []) (ok_Desk_drawAfter x14) mt_Desk_drawAfter rfl rfl sw_1031 sw_1032 (by decide) (Nat.le_of_ble_eq_true rfl) dd_Desk_drawMonths_75 (fun x16 => fr_to (pc' := 78) (env' := [some (sf_rv p0), some (.int p1), some (.int p2), some (.int b1.1), some (.int x14), some (.int b1.2.2), some (.int x13), some (.int y15)]) (stk' := [.int x16]) rfl rfl rfl ?_)
          refine fp_istore (i := 4) dd_Desk_drawMonths_78 (Nat.le_of_ble_eq_true rfl) (fun _ => c1_i rfl) (fr_to (pc' := 80) (env' := [some (sf_rv p0), some (.int p1), some (.int p2), some (.int b1.1), some (.int x16), some (.int b1.2.2), some (.int x13), some (.int y15)]) (stk' := []) rfl rfl rfl ?_)
          refine fp_iload (i := 4) (x := x16) dd_Desk_drawMonths_80 rfl (fr_pc (pc' := 82) rfl ?_)
          refine fp_iconst (v := (4 : Int32)) dd_Desk_drawMonths_82 (by decide) (fr_pc (pc' := 83) rfl ?_)
          refine fp_irem0 dd_Desk_drawMonths_83 (by decide) (fr_pc (pc' := 84) rfl ?_)
          refine fp_tsw (ts := [112, 133, 154]) (t0 := 172) (cs := [((0 : Int32), 112), ((1 : Int32), 133), ((2 : Int32), 154)]) dd_Desk_drawMonths_84 (by decide) rfl ?_
          refine fr_sw (fun _ => ?_) (fun _ => ?_)
          · refine fp_aload_n (i := 0) (r := p0) dd_Desk_drawMonths_112 rfl rfl (fr_pc (pc' := 113) rfl ?_)
            refine fp_iconst (v := (0 : Int32)) dd_Desk_drawMonths_113 (by decide) (fr_pc (pc' := 114) rfl ?_)
            refine fp_aload_n (i := 0) (r := p0) dd_Desk_drawMonths_114 rfl rfl (fr_pc (pc' := 115) rfl ?_)
            refine fr_gR cl_1 0 (by decide) rfl sw_191 dd_Desk_drawMonths_115 (fun x17 => fr_pc (pc' := 118) rfl ?_)
            refine fr_gR cl_4 0 (by decide) rfl sw_86 dd_Desk_drawMonths_118 (fun x18 => fr_pc (pc' := 121) rfl ?_)
            refine fr_gI cl_5 2 (by decide) rfl sw_52 dd_Desk_drawMonths_121 (fun x19 => fr_pc (pc' := 124) rfl ?_)
            refine fp_iload (i := 7) (x := y15) dd_Desk_drawMonths_124 rfl (fr_pc (pc' := 126) rfl ?_)
            refine fr_callV (stk := []) (As := [.int (0 : Int32), .int x19, .int y15]) cl_1 (ok_Desk_buyTicket p0 (0 : Int32) x19 y15) mt_Desk_buyTicket rfl rfl sw_773 sw_774 sw_775 (by decide) (Nat.le_of_ble_eq_true rfl) dd_Desk_drawMonths_126 (fun x20 => fr_to (pc' := 129) (env' := [some (sf_rv p0), some (.int p1), some (.int p2), some (.int b1.1), some (.int x16), some (.int b1.2.2), some (.int x13), some (.int y15)]) (stk' := [.int x20]) rfl rfl rfl ?_)
            refine fp_pop_i dd_Desk_drawMonths_129 (fr_pc (pc' := 130) rfl ?_)
            refine fp_goto (tgt := 177) dd_Desk_drawMonths_130 rfl ?_
            refine fr_niinc (i := 5) (x := b1.2.2) (w := (1 : Int32)) dd_Desk_drawMonths_177 rfl (by decide) (Nat.le_of_ble_eq_true rfl) (fun _ => c1_i rfl) (fun y21 => fr_to (pc' := 180) (env' := [some (sf_rv p0), some (.int p1), some (.int p2), some (.int b1.1), some (.int x16), some (.int y21), some (.int x13), some (.int y15)]) (stk' := []) rfl rfl rfl ?_)
            refine fp_goto (tgt := 8) dd_Desk_drawMonths_180 rfl ?_
            refine fr_wk [true, true, true, true, true, true, false, false] ?_
            exact fr_ret rfl
          · refine fr_sw (fun _ => ?_) (fun _ => ?_)
            · refine fp_aload_n (i := 0) (r := p0) dd_Desk_drawMonths_133 rfl rfl (fr_pc (pc' := 134) rfl ?_)
              refine fp_iconst (v := (1 : Int32)) dd_Desk_drawMonths_134 (by decide) (fr_pc (pc' := 135) rfl ?_)
              refine fp_aload_n (i := 0) (r := p0) dd_Desk_drawMonths_135 rfl rfl (fr_pc (pc' := 136) rfl ?_)
              refine fr_gR cl_1 0 (by decide) rfl sw_191 dd_Desk_drawMonths_136 (fun x22 => fr_pc (pc' := 139) rfl ?_)
              refine fr_gR cl_4 0 (by decide) rfl sw_86 dd_Desk_drawMonths_139 (fun x23 => fr_pc (pc' := 142) rfl ?_)
              refine fr_gI cl_5 2 (by decide) rfl sw_52 dd_Desk_drawMonths_142 (fun x24 => fr_pc (pc' := 145) rfl ?_)
              refine fp_iload (i := 7) (x := y15) dd_Desk_drawMonths_145 rfl (fr_pc (pc' := 147) rfl ?_)
              refine fr_callV (stk := []) (As := [.int (1 : Int32), .int x24, .int y15]) cl_1 (ok_Desk_buyTicket p0 (1 : Int32) x24 y15) mt_Desk_buyTicket rfl rfl sw_773 sw_774 sw_775 (by decide) (Nat.le_of_ble_eq_true rfl) dd_Desk_drawMonths_147 (fun x25 => fr_to (pc' := 150) (env' := [some (sf_rv p0), some (.int p1), some (.int p2), some (.int b1.1), some (.int x16), some (.int b1.2.2), some (.int x13), some (.int y15)]) (stk' := [.int x25]) rfl rfl rfl ?_)
              refine fp_pop_i dd_Desk_drawMonths_150 (fr_pc (pc' := 151) rfl ?_)
              refine fp_goto (tgt := 177) dd_Desk_drawMonths_151 rfl ?_
              refine fr_niinc (i := 5) (x := b1.2.2) (w := (1 : Int32)) dd_Desk_drawMonths_177 rfl (by decide) (Nat.le_of_ble_eq_true rfl) (fun _ => c1_i rfl) (fun y26 => fr_to (pc' := 180) (env' := [some (sf_rv p0), some (.int p1), some (.int p2), some (.int b1.1), some (.int x16), some (.int y26), some (.int x13), some (.int y15)]) (stk' := []) rfl rfl rfl ?_)
              refine fp_goto (tgt := 8) dd_Desk_drawMonths_180 rfl ?_
              refine fr_wk [true, true, true, true, true, true, false, false] ?_
              exact fr_ret rfl
            · refine fr_sw (fun _ => ?_) (fun _ => ?_)
              · refine fp_iload_n (i := 3) (x := b1.1) dd_Desk_drawMonths_154 rfl rfl (fr_pc (pc' := 155) rfl ?_)
                refine fp_iconst (v := (0 : Int32)) dd_Desk_drawMonths_155 (by decide) (fr_pc (pc' := 156) rfl ?_)
                refine fp_aload_n (i := 0) (r := p0) dd_Desk_drawMonths_156 rfl rfl (fr_pc (pc' := 157) rfl ?_)
                refine fp_iload (i := 6) (x := x13) dd_Desk_drawMonths_157 rfl (fr_pc (pc' := 159) rfl ?_)
                refine fp_iload (i := 7) (x := y15) dd_Desk_drawMonths_159 rfl (fr_pc (pc' := 161) rfl ?_)
                refine fr_callV (stk := [.int (0 : Int32), .int b1.1]) (As := [.int x13, .int y15]) cl_1 (ok_Desk_rideTrain p0 x13 y15) mt_Desk_rideTrain rfl rfl sw_793 sw_794 sw_795 (by decide) (Nat.le_of_ble_eq_true rfl) dd_Desk_drawMonths_161 (fun x27 => fr_to (pc' := 164) (env' := [some (sf_rv p0), some (.int p1), some (.int p2), some (.int b1.1), some (.int x16), some (.int b1.2.2), some (.int x13), some (.int y15)]) (stk' := [.int x27, .int (0 : Int32), .int b1.1]) rfl rfl rfl ?_)
                refine fr_callS (stk := [.int b1.1]) (ok_Math_max (0 : Int32) x27) mt_Math_max rfl rfl sw_1035 sw_448 (by decide) (Nat.le_of_ble_eq_true rfl) dd_Desk_drawMonths_164 (fun x28 => fr_to (pc' := 167) (env' := [some (sf_rv p0), some (.int p1), some (.int p2), some (.int b1.1), some (.int x16), some (.int b1.2.2), some (.int x13), some (.int y15)]) (stk' := [.int x28, .int b1.1]) rfl rfl rfl ?_)
                refine fp_iadd dd_Desk_drawMonths_167 (fr_pc (pc' := 168) rfl ?_)
                refine fr_nistore_n (i := 3) dd_Desk_drawMonths_168 rfl (Nat.le_of_ble_eq_true rfl) (fun _ => c1_i rfl) (fun y29 => fr_to (pc' := 169) (env' := [some (sf_rv p0), some (.int p1), some (.int p2), some (.int y29), some (.int x16), some (.int b1.2.2), some (.int x13), some (.int y15)]) (stk' := []) rfl rfl rfl ?_)
                refine fp_goto (tgt := 177) dd_Desk_drawMonths_169 rfl ?_
                refine fr_niinc (i := 5) (x := b1.2.2) (w := (1 : Int32)) dd_Desk_drawMonths_177 rfl (by decide) (Nat.le_of_ble_eq_true rfl) (fun _ => c1_i rfl) (fun y30 => fr_to (pc' := 180) (env' := [some (sf_rv p0), some (.int p1), some (.int p2), some (.int y29), some (.int x16), some (.int y30), some (.int x13), some (.int y15)]) (stk' := []) rfl rfl rfl ?_)
                refine fp_goto (tgt := 8) dd_Desk_drawMonths_180 rfl ?_
                refine fr_wk [true, true, true, true, true, true, false, false] ?_
                exact fr_ret rfl
              · refine fr_pc (pc' := 172) rfl ?_
                refine fp_aload_n (i := 0) (r := p0) dd_Desk_drawMonths_172 rfl rfl (fr_pc (pc' := 173) rfl ?_)
                refine fr_callV (stk := []) (As := []) cl_1 (ok_Desk_passDay p0) mt_Desk_passDay rfl rfl sw_841 sw_842 sw_843 (by decide) (Nat.le_of_ble_eq_true rfl) dd_Desk_drawMonths_173 (fun x31 => fr_to (pc' := 176) (env' := [some (sf_rv p0), some (.int p1), some (.int p2), some (.int b1.1), some (.int x16), some (.int b1.2.2), some (.int x13), some (.int y15)]) (stk' := [.int x31]) rfl rfl rfl ?_)
                refine fp_pop_i dd_Desk_drawMonths_176 (fr_pc (pc' := 177) rfl ?_)
                refine fr_niinc (i := 5) (x := b1.2.2) (w := (1 : Int32)) dd_Desk_drawMonths_177 rfl (by decide) (Nat.le_of_ble_eq_true rfl) (fun _ => c1_i rfl) (fun y32 => fr_to (pc' := 180) (env' := [some (sf_rv p0), some (.int p1), some (.int p2), some (.int b1.1), some (.int x16), some (.int y32), some (.int x13), some (.int y15)]) (stk' := []) rfl rfl rfl ?_)
                refine fp_goto (tgt := 8) dd_Desk_drawMonths_180 rfl ?_
                refine fr_wk [true, true, true, true, true, true, false, false] ?_
                exact fr_ret rfl
  · refine fp_iload_n (i := 3) (x := e33) dd_Desk_drawMonths_183 rfl rfl (fr_pc (pc' := 184) rfl ?_)
    exact fr_iret (v := e33) rfl rfl dd_Desk_drawMonths_184
