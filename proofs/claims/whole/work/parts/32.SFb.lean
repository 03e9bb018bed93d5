/-! SplitFares: its methods as plain functions, and that the bytecode runs them (printed by program). -/
theorem mt_SF_init : sf_Mt ({ cls := "SplitFares", name := "<init>", desc := "()V" } : Jvm.MethodName) prog_1_method_1_code 1 none 0 := ⟨sw_25, sw_1, ⟨by decide, by decide, by decide +kernel⟩, by decide⟩
theorem dd_SF_init_0 : decode prog_1_method_1_code 0 = .ok (.aload_n 0, 1) := by decide +kernel
theorem dd_SF_init_1 : decode prog_1_method_1_code 1 = .ok (.invokespecial 3, 3) := by decide +kernel
theorem dd_SF_init_4 : decode prog_1_method_1_code 4 = .ok (.aload_n 0, 1) := by decide +kernel
theorem dd_SF_init_5 : decode prog_1_method_1_code 5 = .ok (.new 9, 3) := by decide +kernel
theorem dd_SF_init_8 : decode prog_1_method_1_code 8 = .ok (.dup, 1) := by decide +kernel
theorem dd_SF_init_9 : decode prog_1_method_1_code 9 = .ok (.invokespecial 11, 3) := by decide +kernel
theorem dd_SF_init_12 : decode prog_1_method_1_code 12 = .ok (.putfield 12, 3) := by decide +kernel
theorem dd_SF_init_15 : decode prog_1_method_1_code 15 = .ok (.aload_n 0, 1) := by decide +kernel
theorem dd_SF_init_16 : decode prog_1_method_1_code 16 = .ok (.new 16, 3) := by decide +kernel
theorem dd_SF_init_19 : decode prog_1_method_1_code 19 = .ok (.dup, 1) := by decide +kernel
theorem dd_SF_init_20 : decode prog_1_method_1_code 20 = .ok (.invokespecial 18, 3) := by decide +kernel
theorem dd_SF_init_23 : decode prog_1_method_1_code 23 = .ok (.putfield 19, 3) := by decide +kernel
theorem dd_SF_init_26 : decode prog_1_method_1_code 26 = .ok (.aload_n 0, 1) := by decide +kernel
theorem dd_SF_init_27 : decode prog_1_method_1_code 27 = .ok (.new 23, 3) := by decide +kernel
theorem dd_SF_init_30 : decode prog_1_method_1_code 30 = .ok (.dup, 1) := by decide +kernel
theorem dd_SF_init_31 : decode prog_1_method_1_code 31 = .ok (.invokespecial 25, 3) := by decide +kernel
theorem dd_SF_init_34 : decode prog_1_method_1_code 34 = .ok (.putfield 26, 3) := by decide +kernel
theorem dd_SF_init_37 : decode prog_1_method_1_code 37 = .ok (.aload_n 0, 1) := by decide +kernel
theorem dd_SF_init_38 : decode prog_1_method_1_code 38 = .ok (.iconst 2, 1) := by decide +kernel
theorem dd_SF_init_39 : decode prog_1_method_1_code 39 = .ok (.anewarray 30, 3) := by decide +kernel
theorem dd_SF_init_42 : decode prog_1_method_1_code 42 = .ok (.putfield 32, 3) := by decide +kernel
theorem dd_SF_init_45 : decode prog_1_method_1_code 45 = .ok (.aload_n 0, 1) := by decide +kernel
theorem dd_SF_init_46 : decode prog_1_method_1_code 46 = .ok (.bipush 7, 2) := by decide +kernel
theorem dd_SF_init_48 : decode prog_1_method_1_code 48 = .ok (.newarray .int, 2) := by decide +kernel
theorem dd_SF_init_50 : decode prog_1_method_1_code 50 = .ok (.putfield 36, 3) := by decide +kernel
theorem dd_SF_init_53 : decode prog_1_method_1_code 53 = .ok (.aload_n 0, 1) := by decide +kernel
theorem dd_SF_init_54 : decode prog_1_method_1_code 54 = .ok (.bipush 48, 2) := by decide +kernel
theorem dd_SF_init_56 : decode prog_1_method_1_code 56 = .ok (.newarray .int, 2) := by decide +kernel
theorem dd_SF_init_58 : decode prog_1_method_1_code 58 = .ok (.putfield 40, 3) := by decide +kernel
theorem dd_SF_init_61 : decode prog_1_method_1_code 61 = .ok (.aload_n 0, 1) := by decide +kernel
theorem dd_SF_init_62 : decode prog_1_method_1_code 62 = .ok (.iconst 4, 1) := by decide +kernel
theorem dd_SF_init_63 : decode prog_1_method_1_code 63 = .ok (.newarray .int, 2) := by decide +kernel
theorem dd_SF_init_65 : decode prog_1_method_1_code 65 = .ok (.putfield 43, 3) := by decide +kernel
theorem dd_SF_init_68 : decode prog_1_method_1_code 68 = .ok (.aload_n 0, 1) := by decide +kernel
theorem dd_SF_init_69 : decode prog_1_method_1_code 69 = .ok (.bipush 20, 2) := by decide +kernel
theorem dd_SF_init_71 : decode prog_1_method_1_code 71 = .ok (.newarray .long, 2) := by decide +kernel
theorem dd_SF_init_73 : decode prog_1_method_1_code 73 = .ok (.putfield 46, 3) := by decide +kernel
theorem dd_SF_init_76 : decode prog_1_method_1_code 76 = .ok (.aload_n 0, 1) := by decide +kernel
theorem dd_SF_init_77 : decode prog_1_method_1_code 77 = .ok (.iconst 0, 1) := by decide +kernel
theorem dd_SF_init_78 : decode prog_1_method_1_code 78 = .ok (.putfield 50, 3) := by decide +kernel
theorem dd_SF_init_81 : decode prog_1_method_1_code 81 = .ok (.aload_n 0, 1) := by decide +kernel
theorem dd_SF_init_82 : decode prog_1_method_1_code 82 = .ok (.iconst (-1), 1) := by decide +kernel
theorem dd_SF_init_83 : decode prog_1_method_1_code 83 = .ok (.putfield 54, 3) := by decide +kernel
theorem dd_SF_init_86 : decode prog_1_method_1_code 86 = .ok (.aload_n 0, 1) := by decide +kernel
theorem dd_SF_init_87 : decode prog_1_method_1_code 87 = .ok (.iconst (-1), 1) := by decide +kernel
theorem dd_SF_init_88 : decode prog_1_method_1_code 88 = .ok (.putfield 58, 3) := by decide +kernel
theorem dd_SF_init_91 : decode prog_1_method_1_code 91 = .ok (.aload_n 0, 1) := by decide +kernel
theorem dd_SF_init_92 : decode prog_1_method_1_code 92 = .ok (.iconst 0, 1) := by decide +kernel
theorem dd_SF_init_93 : decode prog_1_method_1_code 93 = .ok (.putfield 61, 3) := by decide +kernel
theorem dd_SF_init_96 : decode prog_1_method_1_code 96 = .ok (.aload_n 0, 1) := by decide +kernel
theorem dd_SF_init_97 : decode prog_1_method_1_code 97 = .ok (.iconst 0, 1) := by decide +kernel
theorem dd_SF_init_98 : decode prog_1_method_1_code 98 = .ok (.putfield 64, 3) := by decide +kernel
theorem dd_SF_init_101 : decode prog_1_method_1_code 101 = .ok (.return_, 1) := by decide +kernel
def jx_SF_init (p0 : Option Nat) : sf_M (Unit) :=
  sf_bnd (sf_rc 0 p0 (sf_ret ())) fun _ =>
  sf_bnd (sf_new 1 8) fun x1 =>
  sf_bnd (sf_rc 1 x1 (jx_Desk_init x1)) fun _ =>
  sf_bnd (sf_pR 0 0 p0 x1) fun _ =>
  sf_bnd (sf_new 8 2) fun x3 =>
  sf_bnd (sf_rc 8 x3 (jx_Tape_init x3)) fun _ =>
  sf_bnd (sf_pR 0 1 p0 x3) fun _ =>
  sf_bnd (sf_new 7 4) fun x5 =>
  sf_bnd (sf_rc 7 x5 (jx_Reader_init x5)) fun _ =>
  sf_bnd (sf_pR 0 2 p0 x5) fun _ =>
  sf_bnd (sf_newA 5 (2 : Int32)) fun x7 =>
  sf_bnd (sf_pR 0 3 p0 x7) fun _ =>
  sf_bnd (sf_newA 0 (7 : Int32)) fun x8 =>
  sf_bnd (sf_pR 0 4 p0 x8) fun _ =>
  sf_bnd (sf_newA 0 (48 : Int32)) fun x9 =>
  sf_bnd (sf_pR 0 5 p0 x9) fun _ =>
  sf_bnd (sf_newA 0 (4 : Int32)) fun x10 =>
  sf_bnd (sf_pR 0 6 p0 x10) fun _ =>
  sf_bnd (sf_newA 1 (20 : Int32)) fun x11 =>
  sf_bnd (sf_pR 0 7 p0 x11) fun _ =>
  sf_bnd (sf_pI 0 8 p0 (0 : Int32)) fun _ =>
  sf_bnd (sf_pI 0 9 p0 (-1 : Int32)) fun _ =>
  sf_bnd (sf_pI 0 10 p0 (-1 : Int32)) fun _ =>
  sf_bnd (sf_pI 0 11 p0 (0 : Int32)) fun _ =>
  sf_bnd (sf_pI 0 12 p0 (0 : Int32)) fun _ =>
  sf_ret ()
set_option maxRecDepth 20000 in
set_option maxHeartbeats 4000000 in
theorem ok_SF_init (p0 : Option Nat) : sf_Ok ({ cls := "SplitFares", name := "<init>", desc := "()V" } : Jvm.MethodName) prog_1_method_1_code 1 none 4 [sf_rv p0] (jx_SF_init p0) (fun _ => none) := by
  refine sf_Ok.of (env := [some (sf_rv p0)]) (plainFor_of_name (by decide)) [false] (fun G => ⟨pk_r, trivial⟩) (Nat.le_of_ble_eq_true rfl) rfl (fun X => ?_)
  unfold jx_SF_init
  refine fp_aload_n (i := 0) (r := p0) dd_SF_init_0 rfl rfl (fr_pc (pc' := 1) rfl ?_)
  refine fr_obj (ci := 0) (by decide) sw_26 sw_27 sw_28 (Nat.le_of_ble_eq_true rfl) (Nat.le_of_ble_eq_true rfl) dd_SF_init_1 (fr_pc (pc' := 4) rfl ?_)
  refine fp_aload_n (i := 0) (r := p0) dd_SF_init_4 rfl rfl (fr_pc (pc' := 5) rfl ?_)
  refine fr_new cl_1 sw_29 sw_30 sw_2 dd_SF_init_5 (fun x1 => fr_pc (pc' := 8) rfl ?_)
  refine fp_dup_r dd_SF_init_8 (fr_pc (pc' := 9) rfl ?_)
  refine fr_callIN (stk := [sf_rv x1, sf_rv p0]) (As := []) (ci := 1) (by decide) rfl (ok_Desk_init x1) mt_Desk_init rfl rfl sn_31 sw_32 (by decide) (Nat.le_of_ble_eq_true rfl) dd_SF_init_9 (fun u2 => fr_to (pc' := 12) (env' := [some (sf_rv p0)]) (stk' := [sf_rv x1, sf_rv p0]) rfl rfl rfl ?_)
  refine fr_pRg cl_0 0 (by decide) rfl sw_315 (Or.inr ⟨rfl, rfl, rfl⟩) (Or.inl ⟨_, rfl⟩) dd_SF_init_12 (fr_pc (pc' := 15) rfl ?_)
  refine fp_aload_n (i := 0) (r := p0) dd_SF_init_15 rfl rfl (fr_pc (pc' := 16) rfl ?_)
  refine fr_new cl_8 sw_220 sw_221 sw_8 dd_SF_init_16 (fun x3 => fr_pc (pc' := 19) rfl ?_)
  refine fp_dup_r dd_SF_init_19 (fr_pc (pc' := 20) rfl ?_)
  refine fr_callIN (stk := [sf_rv x3, sf_rv p0]) (As := []) (ci := 8) (by decide) rfl (ok_Tape_init x3) mt_Tape_init rfl rfl sn_222 sw_223 (by decide) (Nat.le_of_ble_eq_true rfl) dd_SF_init_20 (fun u4 => fr_to (pc' := 23) (env' := [some (sf_rv p0)]) (stk' := [sf_rv x3, sf_rv p0]) rfl rfl rfl ?_)
  refine fr_pRg cl_0 1 (by decide) rfl sw_316 (Or.inr ⟨rfl, rfl, rfl⟩) (Or.inl ⟨_, rfl⟩) dd_SF_init_23 (fr_pc (pc' := 26) rfl ?_)
  refine fp_aload_n (i := 0) (r := p0) dd_SF_init_26 rfl rfl (fr_pc (pc' := 27) rfl ?_)
  refine fr_new cl_7 sw_235 sw_236 sw_9 dd_SF_init_27 (fun x5 => fr_pc (pc' := 30) rfl ?_)
  refine fp_dup_r dd_SF_init_30 (fr_pc (pc' := 31) rfl ?_)
  refine fr_callIN (stk := [sf_rv x5, sf_rv p0]) (As := []) (ci := 7) (by decide) rfl (ok_Reader_init x5) mt_Reader_init rfl rfl sn_237 sw_238 (by decide) (Nat.le_of_ble_eq_true rfl) dd_SF_init_31 (fun u6 => fr_to (pc' := 34) (env' := [some (sf_rv p0)]) (stk' := [sf_rv x5, sf_rv p0]) rfl rfl rfl ?_)
  refine fr_pRg cl_0 2 (by decide) rfl sw_317 (Or.inr ⟨rfl, rfl, rfl⟩) (Or.inl ⟨_, rfl⟩) dd_SF_init_34 (fr_pc (pc' := 37) rfl ?_)
  refine fp_aload_n (i := 0) (r := p0) dd_SF_init_37 rfl rfl (fr_pc (pc' := 38) rfl ?_)
  refine fp_iconst (v := (2 : Int32)) dd_SF_init_38 (by decide) (fr_pc (pc' := 39) rfl ?_)
  refine fr_newR sw_313 (fun G U h => h.2.2.1.2.1) ar_5 (by decide) (by decide) dd_SF_init_39 (fun x7 => fr_pc (pc' := 42) rfl ?_)
  refine fr_pRg cl_0 3 (by decide) rfl sw_318 (Or.inr ⟨rfl, rfl, rfl⟩) (Or.inr ⟨_, rfl⟩) dd_SF_init_42 (fr_pc (pc' := 45) rfl ?_)
  refine fp_aload_n (i := 0) (r := p0) dd_SF_init_45 rfl rfl (fr_pc (pc' := 46) rfl ?_)
  refine fp_bipush (v := (7 : Int32)) dd_SF_init_46 (by decide) (fr_pc (pc' := 48) rfl ?_)
  refine fr_newI dd_SF_init_48 (fun x8 => fr_pc (pc' := 50) rfl ?_)
  refine fr_pRg cl_0 4 (by decide) rfl sw_319 (Or.inr ⟨rfl, rfl, rfl⟩) (Or.inr ⟨_, rfl⟩) dd_SF_init_50 (fr_pc (pc' := 53) rfl ?_)
  refine fp_aload_n (i := 0) (r := p0) dd_SF_init_53 rfl rfl (fr_pc (pc' := 54) rfl ?_)
  refine fp_bipush (v := (48 : Int32)) dd_SF_init_54 (by decide) (fr_pc (pc' := 56) rfl ?_)
  refine fr_newI dd_SF_init_56 (fun x9 => fr_pc (pc' := 58) rfl ?_)
  refine fr_pRg cl_0 5 (by decide) rfl sw_320 (Or.inr ⟨rfl, rfl, rfl⟩) (Or.inr ⟨_, rfl⟩) dd_SF_init_58 (fr_pc (pc' := 61) rfl ?_)
  refine fp_aload_n (i := 0) (r := p0) dd_SF_init_61 rfl rfl (fr_pc (pc' := 62) rfl ?_)
  refine fp_iconst (v := (4 : Int32)) dd_SF_init_62 (by decide) (fr_pc (pc' := 63) rfl ?_)
  refine fr_newI dd_SF_init_63 (fun x10 => fr_pc (pc' := 65) rfl ?_)
  refine fr_pRg cl_0 6 (by decide) rfl sw_321 (Or.inr ⟨rfl, rfl, rfl⟩) (Or.inr ⟨_, rfl⟩) dd_SF_init_65 (fr_pc (pc' := 68) rfl ?_)
  refine fp_aload_n (i := 0) (r := p0) dd_SF_init_68 rfl rfl (fr_pc (pc' := 69) rfl ?_)
  refine fp_bipush (v := (20 : Int32)) dd_SF_init_69 (by decide) (fr_pc (pc' := 71) rfl ?_)
  refine fr_newL dd_SF_init_71 (fun x11 => fr_pc (pc' := 73) rfl ?_)
  refine fr_pRg cl_0 7 (by decide) rfl sw_322 (Or.inr ⟨rfl, rfl, rfl⟩) (Or.inr ⟨_, rfl⟩) dd_SF_init_73 (fr_pc (pc' := 76) rfl ?_)
  refine fp_aload_n (i := 0) (r := p0) dd_SF_init_76 rfl rfl (fr_pc (pc' := 77) rfl ?_)
  refine fp_iconst (v := (0 : Int32)) dd_SF_init_77 (by decide) (fr_pc (pc' := 78) rfl ?_)
  refine fr_pI cl_0 8 (by decide) rfl sw_323 rfl ⟨rfl, rfl⟩ dd_SF_init_78 (fr_pc (pc' := 81) rfl ?_)
  refine fp_aload_n (i := 0) (r := p0) dd_SF_init_81 rfl rfl (fr_pc (pc' := 82) rfl ?_)
  refine fp_iconst (v := (-1 : Int32)) dd_SF_init_82 (by decide) (fr_pc (pc' := 83) rfl ?_)
  refine fr_pI cl_0 9 (by decide) rfl sw_324 rfl ⟨rfl, rfl⟩ dd_SF_init_83 (fr_pc (pc' := 86) rfl ?_)
  refine fp_aload_n (i := 0) (r := p0) dd_SF_init_86 rfl rfl (fr_pc (pc' := 87) rfl ?_)
  refine fp_iconst (v := (-1 : Int32)) dd_SF_init_87 (by decide) (fr_pc (pc' := 88) rfl ?_)
  refine fr_pI cl_0 10 (by decide) rfl sw_325 rfl ⟨rfl, rfl⟩ dd_SF_init_88 (fr_pc (pc' := 91) rfl ?_)
  refine fp_aload_n (i := 0) (r := p0) dd_SF_init_91 rfl rfl (fr_pc (pc' := 92) rfl ?_)
  refine fp_iconst (v := (0 : Int32)) dd_SF_init_92 (by decide) (fr_pc (pc' := 93) rfl ?_)
  refine fr_pI cl_0 11 (by decide) rfl sw_326 rfl ⟨rfl, rfl⟩ dd_SF_init_93 (fr_pc (pc' := 96) rfl ?_)
  refine fp_aload_n (i := 0) (r := p0) dd_SF_init_96 rfl rfl (fr_pc (pc' := 97) rfl ?_)
  refine fp_iconst (v := (0 : Int32)) dd_SF_init_97 (by decide) (fr_pc (pc' := 98) rfl ?_)
  refine fr_pI cl_0 12 (by decide) rfl sw_327 rfl ⟨rfl, rfl⟩ dd_SF_init_98 (fr_pc (pc' := 101) rfl ?_)
  exact fr_vret rfl rfl dd_SF_init_101
theorem mt_SF_refused : sf_Mt ({ cls := "SplitFares", name := "refused", desc := "(I)I" } : Jvm.MethodName) prog_1_method_48_code 2 (some .int) 1 := ⟨sw_377, sw_1, ⟨by decide, by decide, by decide +kernel⟩, by decide⟩
theorem dd_SF_refused_0 : decode prog_1_method_48_code 0 = .ok (.aload_n 0, 1) := by decide +kernel
theorem dd_SF_refused_1 : decode prog_1_method_48_code 1 = .ok (.iload_n 1, 1) := by decide +kernel
theorem dd_SF_refused_2 : decode prog_1_method_48_code 2 = .ok (.putfield 64, 3) := by decide +kernel
theorem dd_SF_refused_5 : decode prog_1_method_48_code 5 = .ok (.iload_n 1, 1) := by decide +kernel
theorem dd_SF_refused_6 : decode prog_1_method_48_code 6 = .ok (.ifCond .ge 24, 3) := by decide +kernel
theorem dd_SF_refused_9 : decode prog_1_method_48_code 9 = .ok (.iload_n 1, 1) := by decide +kernel
theorem dd_SF_refused_10 : decode prog_1_method_48_code 10 = .ok (.aload_n 0, 1) := by decide +kernel
theorem dd_SF_refused_11 : decode prog_1_method_48_code 11 = .ok (.getfield 36, 3) := by decide +kernel
theorem dd_SF_refused_14 : decode prog_1_method_48_code 14 = .ok (.arraylength, 1) := by decide +kernel
theorem dd_SF_refused_15 : decode prog_1_method_48_code 15 = .ok (.ineg, 1) := by decide +kernel
theorem dd_SF_refused_16 : decode prog_1_method_48_code 16 = .ok (.if_icmp .le 14, 3) := by decide +kernel
theorem dd_SF_refused_19 : decode prog_1_method_48_code 19 = .ok (.aload_n 0, 1) := by decide +kernel
theorem dd_SF_refused_20 : decode prog_1_method_48_code 20 = .ok (.getfield 36, 3) := by decide +kernel
theorem dd_SF_refused_23 : decode prog_1_method_48_code 23 = .ok (.iload_n 1, 1) := by decide +kernel
theorem dd_SF_refused_24 : decode prog_1_method_48_code 24 = .ok (.ineg, 1) := by decide +kernel
theorem dd_SF_refused_25 : decode prog_1_method_48_code 25 = .ok (.dup2, 1) := by decide +kernel
theorem dd_SF_refused_26 : decode prog_1_method_48_code 26 = .ok (.iaload, 1) := by decide +kernel
theorem dd_SF_refused_27 : decode prog_1_method_48_code 27 = .ok (.iconst 1, 1) := by decide +kernel
theorem dd_SF_refused_28 : decode prog_1_method_48_code 28 = .ok (.iadd, 1) := by decide +kernel
theorem dd_SF_refused_29 : decode prog_1_method_48_code 29 = .ok (.iastore, 1) := by decide +kernel
theorem dd_SF_refused_30 : decode prog_1_method_48_code 30 = .ok (.iload_n 1, 1) := by decide +kernel
theorem dd_SF_refused_31 : decode prog_1_method_48_code 31 = .ok (.ireturn, 1) := by decide +kernel
def jx_SF_refused (p0 : Option Nat) (p1 : Int32) : sf_M (Int32) :=
  sf_bnd (sf_pI 0 12 p0 p1) fun _ =>
  if 0 ≤ p1 then (
  sf_ret p1
  ) else (
  sf_bnd (sf_gR 0 4 p0) fun x2 =>
  sf_bnd (sf_len x2) fun x3 =>
  if p1 ≤ (-x3) then (
  sf_ret p1
  ) else (
  sf_bnd (sf_gR 0 4 p0) fun x5 =>
  sf_bnd (sf_aI 0 x5 (-p1)) fun x6 =>
  sf_bnd (sf_sI 0 x5 (-p1) (x6 + (1 : Int32))) fun _ =>
  sf_ret p1
  )
  )
set_option maxRecDepth 20000 in
set_option maxHeartbeats 4000000 in
theorem ok_SF_refused (p0 : Option Nat) (p1 : Int32) : sf_Ok ({ cls := "SplitFares", name := "refused", desc := "(I)I" } : Jvm.MethodName) prog_1_method_48_code 2 (some .int) 0 [sf_rv p0, .int p1] (jx_SF_refused p0 p1) (fun r => some (.int r)) := by
  refine sf_Ok.of (env := [some (sf_rv p0), some (.int p1)]) (plainFor_of_name (by decide)) [false, false] (fun G => ⟨pk_r, pk_i, trivial⟩) (Nat.le_of_ble_eq_true rfl) rfl (fun X => ?_)
  unfold jx_SF_refused
  refine fp_aload_n (i := 0) (r := p0) dd_SF_refused_0 rfl rfl (fr_pc (pc' := 1) rfl ?_)
  refine fp_iload_n (i := 1) (x := p1) dd_SF_refused_1 rfl rfl (fr_pc (pc' := 2) rfl ?_)
  refine fr_pI cl_0 12 (by decide) rfl sw_327 rfl ⟨rfl, rfl⟩ dd_SF_refused_2 (fr_pc (pc' := 5) rfl ?_)
  refine fp_iload_n (i := 1) (x := p1) dd_SF_refused_5 rfl rfl (fr_pc (pc' := 6) rfl ?_)
  refine fr_if_ge (tgt := 30) dd_SF_refused_6 rfl (fun _ => ?_) (fun _ => ?_)
  · refine fp_iload_n (i := 1) (x := p1) dd_SF_refused_30 rfl rfl (fr_pc (pc' := 31) rfl ?_)
    exact fr_iret (v := p1) rfl rfl dd_SF_refused_31
  · refine fr_pc (pc' := 9) rfl ?_
    refine fp_iload_n (i := 1) (x := p1) dd_SF_refused_9 rfl rfl (fr_pc (pc' := 10) rfl ?_)
    refine fp_aload_n (i := 0) (r := p0) dd_SF_refused_10 rfl rfl (fr_pc (pc' := 11) rfl ?_)
    refine fr_gR cl_0 4 (by decide) rfl sw_319 dd_SF_refused_11 (fun x2 => fr_pc (pc' := 14) rfl ?_)
    refine fr_len dd_SF_refused_14 (fun x3 => fr_pc (pc' := 15) rfl ?_)
    refine fp_ineg dd_SF_refused_15 (fr_pc (pc' := 16) rfl ?_)
    refine fr_icmp_le (tgt := 30) dd_SF_refused_16 rfl (fun _ => ?_) (fun _ => ?_)
    · refine fp_iload_n (i := 1) (x := p1) dd_SF_refused_30 rfl rfl (fr_pc (pc' := 31) rfl ?_)
      exact fr_iret (v := p1) rfl rfl dd_SF_refused_31
    · refine fr_pc (pc' := 19) rfl ?_
      refine fp_aload_n (i := 0) (r := p0) dd_SF_refused_19 rfl rfl (fr_pc (pc' := 20) rfl ?_)
      refine fr_gR cl_0 4 (by decide) rfl sw_319 dd_SF_refused_20 (fun x5 => fr_pc (pc' := 23) rfl ?_)
      refine fp_iload_n (i := 1) (x := p1) dd_SF_refused_23 rfl rfl (fr_pc (pc' := 24) rfl ?_)
      refine fp_ineg dd_SF_refused_24 (fr_pc (pc' := 25) rfl ?_)
      refine fp_dup2 dd_SF_refused_25 (fr_pc (pc' := 26) rfl ?_)
      refine fr_aI0 dd_SF_refused_26 (fun x6 => fr_pc (pc' := 27) rfl ?_)
      refine fp_iconst (v := (1 : Int32)) dd_SF_refused_27 (by decide) (fr_pc (pc' := 28) rfl ?_)
      refine fp_iadd dd_SF_refused_28 (fr_pc (pc' := 29) rfl ?_)
      refine fr_sI0 dd_SF_refused_29 (fr_pc (pc' := 30) rfl ?_)
      refine fp_iload_n (i := 1) (x := p1) dd_SF_refused_30 rfl rfl (fr_pc (pc' := 31) rfl ?_)
      exact fr_iret (v := p1) rfl rfl dd_SF_refused_31
theorem mt_SF_accepted : sf_Mt ({ cls := "SplitFares", name := "accepted", desc := "(I)I" } : Jvm.MethodName) prog_1_method_47_code 2 (some .int) 1 := ⟨sw_381, sw_1, ⟨by decide, by decide, by decide +kernel⟩, by decide⟩
theorem dd_SF_accepted_0 : decode prog_1_method_47_code 0 = .ok (.aload_n 0, 1) := by decide +kernel
theorem dd_SF_accepted_1 : decode prog_1_method_47_code 1 = .ok (.iconst 0, 1) := by decide +kernel
theorem dd_SF_accepted_2 : decode prog_1_method_47_code 2 = .ok (.putfield 64, 3) := by decide +kernel
theorem dd_SF_accepted_5 : decode prog_1_method_47_code 5 = .ok (.iload_n 1, 1) := by decide +kernel
theorem dd_SF_accepted_6 : decode prog_1_method_47_code 6 = .ok (.ireturn, 1) := by decide +kernel
def jx_SF_accepted (p0 : Option Nat) (p1 : Int32) : sf_M (Int32) :=
  sf_bnd (sf_pI 0 12 p0 (0 : Int32)) fun _ =>
  sf_ret p1
set_option maxRecDepth 20000 in
set_option maxHeartbeats 4000000 in
theorem ok_SF_accepted (p0 : Option Nat) (p1 : Int32) : sf_Ok ({ cls := "SplitFares", name := "accepted", desc := "(I)I" } : Jvm.MethodName) prog_1_method_47_code 2 (some .int) 0 [sf_rv p0, .int p1] (jx_SF_accepted p0 p1) (fun r => some (.int r)) := by
  refine sf_Ok.of (env := [some (sf_rv p0), some (.int p1)]) (plainFor_of_name (by decide)) [false, false] (fun G => ⟨pk_r, pk_i, trivial⟩) (Nat.le_of_ble_eq_true rfl) rfl (fun X => ?_)
  unfold jx_SF_accepted
  refine fp_aload_n (i := 0) (r := p0) dd_SF_accepted_0 rfl rfl (fr_pc (pc' := 1) rfl ?_)
  refine fp_iconst (v := (0 : Int32)) dd_SF_accepted_1 (by decide) (fr_pc (pc' := 2) rfl ?_)
  refine fr_pI cl_0 12 (by decide) rfl sw_327 rfl ⟨rfl, rfl⟩ dd_SF_accepted_2 (fr_pc (pc' := 5) rfl ?_)
  refine fp_iload_n (i := 1) (x := p1) dd_SF_accepted_5 rfl rfl (fr_pc (pc' := 6) rfl ?_)
  exact fr_iret (v := p1) rfl rfl dd_SF_accepted_6
theorem mt_SF_answered : sf_Mt ({ cls := "SplitFares", name := "answered", desc := "(I)I" } : Jvm.MethodName) prog_1_method_49_code 2 (some .int) 1 := ⟨sw_373, sw_1, ⟨by decide, by decide, by decide +kernel⟩, by decide⟩
theorem dd_SF_answered_0 : decode prog_1_method_49_code 0 = .ok (.iload_n 1, 1) := by decide +kernel
theorem dd_SF_answered_1 : decode prog_1_method_49_code 1 = .ok (.ifCond .ge 11, 3) := by decide +kernel
theorem dd_SF_answered_4 : decode prog_1_method_49_code 4 = .ok (.aload_n 0, 1) := by decide +kernel
theorem dd_SF_answered_5 : decode prog_1_method_49_code 5 = .ok (.iload_n 1, 1) := by decide +kernel
theorem dd_SF_answered_6 : decode prog_1_method_49_code 6 = .ok (.invokevirtual 119, 3) := by decide +kernel
theorem dd_SF_answered_9 : decode prog_1_method_49_code 9 = .ok (.goto 8, 3) := by decide +kernel
theorem dd_SF_answered_12 : decode prog_1_method_49_code 12 = .ok (.aload_n 0, 1) := by decide +kernel
theorem dd_SF_answered_13 : decode prog_1_method_49_code 13 = .ok (.iload_n 1, 1) := by decide +kernel
theorem dd_SF_answered_14 : decode prog_1_method_49_code 14 = .ok (.invokevirtual 138, 3) := by decide +kernel
theorem dd_SF_answered_17 : decode prog_1_method_49_code 17 = .ok (.ireturn, 1) := by decide +kernel
def jx_SF_answered (p0 : Option Nat) (p1 : Int32) : sf_M (Int32) :=
  if 0 ≤ p1 then (
  sf_bnd (sf_rc 0 p0 (jx_SF_accepted p0 p1)) fun x2 =>
  sf_ret x2
  ) else (
  sf_bnd (sf_rc 0 p0 (jx_SF_refused p0 p1)) fun x3 =>
  sf_ret x3
  )
set_option maxRecDepth 20000 in
set_option maxHeartbeats 4000000 in
theorem ok_SF_answered (p0 : Option Nat) (p1 : Int32) : sf_Ok ({ cls := "SplitFares", name := "answered", desc := "(I)I" } : Jvm.MethodName) prog_1_method_49_code 2 (some .int) 1 [sf_rv p0, .int p1] (jx_SF_answered p0 p1) (fun r => some (.int r)) := by
  refine sf_Ok.of (env := [some (sf_rv p0), some (.int p1)]) (plainFor_of_name (by decide)) [false, false] (fun G => ⟨pk_r, pk_i, trivial⟩) (Nat.le_of_ble_eq_true rfl) rfl (fun X => ?_)
  unfold jx_SF_answered
  refine fp_iload_n (i := 1) (x := p1) dd_SF_answered_0 rfl rfl (fr_pc (pc' := 1) rfl ?_)
  refine fr_if_ge (tgt := 12) dd_SF_answered_1 rfl (fun _ => ?_) (fun _ => ?_)
  · refine fp_aload_n (i := 0) (r := p0) dd_SF_answered_12 rfl rfl (fr_pc (pc' := 13) rfl ?_)
    refine fp_iload_n (i := 1) (x := p1) dd_SF_answered_13 rfl rfl (fr_pc (pc' := 14) rfl ?_)
    refine fr_callV (stk := []) (As := [.int p1]) cl_0 (ok_SF_accepted p0 p1) mt_SF_accepted rfl rfl sw_378 sw_380 sp_2 (by decide) (Nat.le_of_ble_eq_true rfl) dd_SF_answered_14 (fun x2 => fr_to (pc' := 17) (env' := [some (sf_rv p0), some (.int p1)]) (stk' := [.int x2]) rfl rfl rfl ?_)
    exact fr_iret (v := x2) rfl rfl dd_SF_answered_17
  · refine fr_pc (pc' := 4) rfl ?_
    refine fp_aload_n (i := 0) (r := p0) dd_SF_answered_4 rfl rfl (fr_pc (pc' := 5) rfl ?_)
    refine fp_iload_n (i := 1) (x := p1) dd_SF_answered_5 rfl rfl (fr_pc (pc' := 6) rfl ?_)
    refine fr_callV (stk := []) (As := [.int p1]) cl_0 (ok_SF_refused p0 p1) mt_SF_refused rfl rfl sw_374 sw_376 sp_1 (by decide) (Nat.le_of_ble_eq_true rfl) dd_SF_answered_6 (fun x3 => fr_to (pc' := 9) (env' := [some (sf_rv p0), some (.int p1)]) (stk' := [.int x3]) rfl rfl rfl ?_)
    refine fp_goto (tgt := 17) dd_SF_answered_9 rfl ?_
    exact fr_iret (v := x3) rfl rfl dd_SF_answered_17
theorem mt_SF_train : sf_Mt ({ cls := "SplitFares", name := "train", desc := "(III)I" } : Jvm.MethodName) prog_1_method_2_code 4 (some .int) 3 := ⟨sw_359, sw_1, ⟨by decide, by decide, by decide +kernel⟩, by decide⟩
theorem dd_SF_train_0 : decode prog_1_method_2_code 0 = .ok (.aload_n 0, 1) := by decide +kernel
theorem dd_SF_train_1 : decode prog_1_method_2_code 1 = .ok (.aload_n 0, 1) := by decide +kernel
theorem dd_SF_train_2 : decode prog_1_method_2_code 2 = .ok (.getfield 12, 3) := by decide +kernel
theorem dd_SF_train_5 : decode prog_1_method_2_code 5 = .ok (.getfield 67, 3) := by decide +kernel
theorem dd_SF_train_8 : decode prog_1_method_2_code 8 = .ok (.iload_n 1, 1) := by decide +kernel
theorem dd_SF_train_9 : decode prog_1_method_2_code 9 = .ok (.iload_n 2, 1) := by decide +kernel
theorem dd_SF_train_10 : decode prog_1_method_2_code 10 = .ok (.iload_n 3, 1) := by decide +kernel
theorem dd_SF_train_11 : decode prog_1_method_2_code 11 = .ok (.invokevirtual 71, 3) := by decide +kernel
theorem dd_SF_train_14 : decode prog_1_method_2_code 14 = .ok (.invokevirtual 75, 3) := by decide +kernel
theorem dd_SF_train_17 : decode prog_1_method_2_code 17 = .ok (.ireturn, 1) := by decide +kernel
def jx_SF_train (p0 : Option Nat) (p1 : Int32) (p2 : Int32) (p3 : Int32) : sf_M (Int32) :=
  sf_bnd (sf_gR 0 0 p0) fun x1 =>
  sf_bnd (sf_gR 1 0 x1) fun x2 =>
  sf_bnd (sf_rc 4 x2 (jx_Office_addTrain x2 p1 p2 p3)) fun x3 =>
  sf_bnd (sf_rc 0 p0 (jx_SF_answered p0 x3)) fun x4 =>
  sf_ret x4
set_option maxRecDepth 20000 in
set_option maxHeartbeats 4000000 in
theorem ok_SF_train (p0 : Option Nat) (p1 : Int32) (p2 : Int32) (p3 : Int32) : sf_Ok ({ cls := "SplitFares", name := "train", desc := "(III)I" } : Jvm.MethodName) prog_1_method_2_code 4 (some .int) 2 [sf_rv p0, .int p1, .int p2, .int p3] (jx_SF_train p0 p1 p2 p3) (fun r => some (.int r)) := by
  refine sf_Ok.of (env := [some (sf_rv p0), some (.int p1), some (.int p2), some (.int p3)]) (plainFor_of_name (by decide)) [false, false, false, false] (fun G => ⟨pk_r, pk_i, pk_i, pk_i, trivial⟩) (Nat.le_of_ble_eq_true rfl) rfl (fun X => ?_)
  unfold jx_SF_train
  refine fp_aload_n (i := 0) (r := p0) dd_SF_train_0 rfl rfl (fr_pc (pc' := 1) rfl ?_)
  refine fp_aload_n (i := 0) (r := p0) dd_SF_train_1 rfl rfl (fr_pc (pc' := 2) rfl ?_)
  refine fr_gR cl_0 0 (by decide) rfl sw_315 dd_SF_train_2 (fun x1 => fr_pc (pc' := 5) rfl ?_)
  refine fr_gR cl_1 0 (by decide) rfl sw_192 dd_SF_train_5 (fun x2 => fr_pc (pc' := 8) rfl ?_)
  refine fp_iload_n (i := 1) (x := p1) dd_SF_train_8 rfl rfl (fr_pc (pc' := 9) rfl ?_)
  refine fp_iload_n (i := 2) (x := p2) dd_SF_train_9 rfl rfl (fr_pc (pc' := 10) rfl ?_)
  refine fp_iload_n (i := 3) (x := p3) dd_SF_train_10 rfl rfl (fr_pc (pc' := 11) rfl ?_)
  refine fr_callV (stk := [sf_rv p0]) (As := [.int p1, .int p2, .int p3]) cl_4 (ok_Office_addTrain x2 p1 p2 p3) mt_Office_addTrain rfl rfl sw_360 sw_361 sw_362 (by decide) (Nat.le_of_ble_eq_true rfl) dd_SF_train_11 (fun x3 => fr_to (pc' := 14) (env' := [some (sf_rv p0), some (.int p1), some (.int p2), some (.int p3)]) (stk' := [.int x3, sf_rv p0]) rfl rfl rfl ?_)
  refine fr_callV (stk := []) (As := [.int x3]) cl_0 (ok_SF_answered p0 x3) mt_SF_answered rfl rfl sw_370 sw_372 sp_0 (by decide) (Nat.le_of_ble_eq_true rfl) dd_SF_train_14 (fun x4 => fr_to (pc' := 17) (env' := [some (sf_rv p0), some (.int p1), some (.int p2), some (.int p3)]) (stk' := [.int x4]) rfl rfl rfl ?_)
  exact fr_iret (v := x4) rfl rfl dd_SF_train_17
theorem mt_SF_of : sf_Mt ({ cls := "SplitFares", name := "of", desc := "(II)I" } : Jvm.MethodName) prog_1_method_3_code 4 (some .int) 2 := ⟨sw_385, sw_1, ⟨by decide, by decide, by decide +kernel⟩, by decide⟩
theorem dd_SF_of_0 : decode prog_1_method_3_code 0 = .ok (.aload_n 0, 1) := by decide +kernel
theorem dd_SF_of_1 : decode prog_1_method_3_code 1 = .ok (.getfield 12, 3) := by decide +kernel
theorem dd_SF_of_4 : decode prog_1_method_3_code 4 = .ok (.getfield 67, 3) := by decide +kernel
theorem dd_SF_of_7 : decode prog_1_method_3_code 7 = .ok (.astore_n 3, 1) := by decide +kernel
theorem dd_SF_of_8 : decode prog_1_method_3_code 8 = .ok (.aload_n 3, 1) := by decide +kernel
theorem dd_SF_of_9 : decode prog_1_method_3_code 9 = .ok (.iload_n 1, 1) := by decide +kernel
theorem dd_SF_of_10 : decode prog_1_method_3_code 10 = .ok (.invokevirtual 79, 3) := by decide +kernel
theorem dd_SF_of_13 : decode prog_1_method_3_code 13 = .ok (.ifCond .ne 5, 3) := by decide +kernel
theorem dd_SF_of_16 : decode prog_1_method_3_code 16 = .ok (.iconst (-1), 1) := by decide +kernel
theorem dd_SF_of_17 : decode prog_1_method_3_code 17 = .ok (.ireturn, 1) := by decide +kernel
theorem dd_SF_of_18 : decode prog_1_method_3_code 18 = .ok (.iload_n 2, 1) := by decide +kernel
theorem dd_SF_of_19 : decode prog_1_method_3_code 19 = .ok (.ifCond .ne 10, 3) := by decide +kernel
theorem dd_SF_of_22 : decode prog_1_method_3_code 22 = .ok (.aload_n 3, 1) := by decide +kernel
theorem dd_SF_of_23 : decode prog_1_method_3_code 23 = .ok (.getfield 83, 3) := by decide +kernel
theorem dd_SF_of_26 : decode prog_1_method_3_code 26 = .ok (.iload_n 1, 1) := by decide +kernel
theorem dd_SF_of_27 : decode prog_1_method_3_code 27 = .ok (.iaload, 1) := by decide +kernel
theorem dd_SF_of_28 : decode prog_1_method_3_code 28 = .ok (.ireturn, 1) := by decide +kernel
theorem dd_SF_of_29 : decode prog_1_method_3_code 29 = .ok (.iload_n 2, 1) := by decide +kernel
theorem dd_SF_of_30 : decode prog_1_method_3_code 30 = .ok (.iconst 1, 1) := by decide +kernel
theorem dd_SF_of_31 : decode prog_1_method_3_code 31 = .ok (.if_icmp .ne 10, 3) := by decide +kernel
theorem dd_SF_of_34 : decode prog_1_method_3_code 34 = .ok (.aload_n 3, 1) := by decide +kernel
theorem dd_SF_of_35 : decode prog_1_method_3_code 35 = .ok (.getfield 86, 3) := by decide +kernel
theorem dd_SF_of_38 : decode prog_1_method_3_code 38 = .ok (.iload_n 1, 1) := by decide +kernel
theorem dd_SF_of_39 : decode prog_1_method_3_code 39 = .ok (.iaload, 1) := by decide +kernel
theorem dd_SF_of_40 : decode prog_1_method_3_code 40 = .ok (.ireturn, 1) := by decide +kernel
theorem dd_SF_of_41 : decode prog_1_method_3_code 41 = .ok (.iload_n 2, 1) := by decide +kernel
theorem dd_SF_of_42 : decode prog_1_method_3_code 42 = .ok (.iconst 2, 1) := by decide +kernel
theorem dd_SF_of_43 : decode prog_1_method_3_code 43 = .ok (.if_icmp .ne 12, 3) := by decide +kernel
theorem dd_SF_of_46 : decode prog_1_method_3_code 46 = .ok (.aload_n 3, 1) := by decide +kernel
theorem dd_SF_of_47 : decode prog_1_method_3_code 47 = .ok (.getfield 89, 3) := by decide +kernel
theorem dd_SF_of_50 : decode prog_1_method_3_code 50 = .ok (.iload_n 1, 1) := by decide +kernel
theorem dd_SF_of_51 : decode prog_1_method_3_code 51 = .ok (.iaload, 1) := by decide +kernel
theorem dd_SF_of_52 : decode prog_1_method_3_code 52 = .ok (.goto 4, 3) := by decide +kernel
theorem dd_SF_of_55 : decode prog_1_method_3_code 55 = .ok (.iconst (-1), 1) := by decide +kernel
theorem dd_SF_of_56 : decode prog_1_method_3_code 56 = .ok (.ireturn, 1) := by decide +kernel
def jx_SF_of (p0 : Option Nat) (p1 : Int32) (p2 : Int32) : sf_M (Int32) :=
  sf_bnd (sf_gR 0 0 p0) fun x1 =>
  sf_bnd (sf_gR 1 0 x1) fun x2 =>
  sf_bnd (sf_rc 4 x2 (jx_Office_hasTrain x2 p1)) fun x3 =>
  if x3 = 0 then (
  sf_ret (-1 : Int32)
  ) else (
  if p2 = 0 then (
  sf_bnd (sf_gR 4 2 x2) fun x6 =>
  sf_bnd (sf_aI 0 x6 p1) fun x7 =>
  sf_ret x7
  ) else (
  if p2 = (1 : Int32) then (
  sf_bnd (sf_gR 4 3 x2) fun x9 =>
  sf_bnd (sf_aI 0 x9 p1) fun x10 =>
  sf_ret x10
  ) else (
  if p2 = (2 : Int32) then (
  sf_bnd (sf_gR 4 4 x2) fun x12 =>
  sf_bnd (sf_aI 0 x12 p1) fun x13 =>
  sf_ret x13
  ) else (
  sf_ret (-1 : Int32)
  )
  )
  )
  )
set_option maxRecDepth 20000 in
set_option maxHeartbeats 4000000 in
theorem ok_SF_of (p0 : Option Nat) (p1 : Int32) (p2 : Int32) : sf_Ok ({ cls := "SplitFares", name := "of", desc := "(II)I" } : Jvm.MethodName) prog_1_method_3_code 4 (some .int) 1 [sf_rv p0, .int p1, .int p2] (jx_SF_of p0 p1 p2) (fun r => some (.int r)) := by
  refine sf_Ok.of (env := [some (sf_rv p0), some (.int p1), some (.int p2), none]) (plainFor_of_name (by decide)) [false, false, false] (fun G => ⟨pk_r, pk_i, pk_i, trivial⟩) (Nat.le_of_ble_eq_true rfl) rfl (fun X => ?_)
  unfold jx_SF_of
  refine fp_aload_n (i := 0) (r := p0) dd_SF_of_0 rfl rfl (fr_pc (pc' := 1) rfl ?_)
  refine fr_gR cl_0 0 (by decide) rfl sw_315 dd_SF_of_1 (fun x1 => fr_pc (pc' := 4) rfl ?_)
  refine fr_gR cl_1 0 (by decide) rfl sw_192 dd_SF_of_4 (fun x2 => fr_pc (pc' := 7) rfl ?_)
  refine fp_astore_n (i := 3) dd_SF_of_7 rfl (Nat.le_of_ble_eq_true rfl) (fun _ => c1_i rfl) (fr_to (pc' := 8) (env' := [some (sf_rv p0), some (.int p1), some (.int p2), some (sf_rv x2)]) (stk' := []) rfl rfl rfl ?_)
  refine fp_aload_n (i := 3) (r := x2) dd_SF_of_8 rfl rfl (fr_pc (pc' := 9) rfl ?_)
  refine fp_iload_n (i := 1) (x := p1) dd_SF_of_9 rfl rfl (fr_pc (pc' := 10) rfl ?_)
  refine fr_callV (stk := []) (As := [.int p1]) cl_4 (ok_Office_hasTrain x2 p1) mt_Office_hasTrain rfl rfl sw_386 sw_387 sw_388 (by decide) (Nat.le_of_ble_eq_true rfl) dd_SF_of_10 (fun x3 => fr_to (pc' := 13) (env' := [some (sf_rv p0), some (.int p1), some (.int p2), some (sf_rv x2)]) (stk' := [.int x3]) rfl rfl rfl ?_)
  refine fr_if_ne (tgt := 18) dd_SF_of_13 rfl (fun _ => ?_) (fun _ => ?_)
  · refine fr_pc (pc' := 16) rfl ?_
    refine fp_iconst (v := (-1 : Int32)) dd_SF_of_16 (by decide) (fr_pc (pc' := 17) rfl ?_)
    exact fr_iret (v := (-1 : Int32)) rfl rfl dd_SF_of_17
  · refine fp_iload_n (i := 2) (x := p2) dd_SF_of_18 rfl rfl (fr_pc (pc' := 19) rfl ?_)
    refine fr_if_ne (tgt := 29) dd_SF_of_19 rfl (fun _ => ?_) (fun _ => ?_)
    · refine fr_pc (pc' := 22) rfl ?_
      refine fp_aload_n (i := 3) (r := x2) dd_SF_of_22 rfl rfl (fr_pc (pc' := 23) rfl ?_)
      refine fr_gR cl_4 2 (by decide) rfl sw_93 dd_SF_of_23 (fun x6 => fr_pc (pc' := 26) rfl ?_)
      refine fp_iload_n (i := 1) (x := p1) dd_SF_of_26 rfl rfl (fr_pc (pc' := 27) rfl ?_)
      refine fr_aI0 dd_SF_of_27 (fun x7 => fr_pc (pc' := 28) rfl ?_)
      exact fr_iret (v := x7) rfl rfl dd_SF_of_28
    · refine fp_iload_n (i := 2) (x := p2) dd_SF_of_29 rfl rfl (fr_pc (pc' := 30) rfl ?_)
      refine fp_iconst (v := (1 : Int32)) dd_SF_of_30 (by decide) (fr_pc (pc' := 31) rfl ?_)
      refine fr_icmp_ne (tgt := 41) dd_SF_of_31 rfl (fun _ => ?_) (fun _ => ?_)
      · refine fr_pc (pc' := 34) rfl ?_
        refine fp_aload_n (i := 3) (r := x2) dd_SF_of_34 rfl rfl (fr_pc (pc' := 35) rfl ?_)
        refine fr_gR cl_4 3 (by decide) rfl sw_96 dd_SF_of_35 (fun x9 => fr_pc (pc' := 38) rfl ?_)
        refine fp_iload_n (i := 1) (x := p1) dd_SF_of_38 rfl rfl (fr_pc (pc' := 39) rfl ?_)
        refine fr_aI0 dd_SF_of_39 (fun x10 => fr_pc (pc' := 40) rfl ?_)
        exact fr_iret (v := x10) rfl rfl dd_SF_of_40
      · refine fp_iload_n (i := 2) (x := p2) dd_SF_of_41 rfl rfl (fr_pc (pc' := 42) rfl ?_)
        refine fp_iconst (v := (2 : Int32)) dd_SF_of_42 (by decide) (fr_pc (pc' := 43) rfl ?_)
        refine fr_icmp_ne (tgt := 55) dd_SF_of_43 rfl (fun _ => ?_) (fun _ => ?_)
        · refine fr_pc (pc' := 46) rfl ?_
          refine fp_aload_n (i := 3) (r := x2) dd_SF_of_46 rfl rfl (fr_pc (pc' := 47) rfl ?_)
          refine fr_gR cl_4 4 (by decide) rfl sw_98 dd_SF_of_47 (fun x12 => fr_pc (pc' := 50) rfl ?_)
          refine fp_iload_n (i := 1) (x := p1) dd_SF_of_50 rfl rfl (fr_pc (pc' := 51) rfl ?_)
          refine fr_aI0 dd_SF_of_51 (fun x13 => fr_pc (pc' := 52) rfl ?_)
          refine fp_goto (tgt := 56) dd_SF_of_52 rfl ?_
          exact fr_iret (v := x13) rfl rfl dd_SF_of_56
        · refine fp_iconst (v := (-1 : Int32)) dd_SF_of_55 (by decide) (fr_pc (pc' := 56) rfl ?_)
          exact fr_iret (v := (-1 : Int32)) rfl rfl dd_SF_of_56
theorem mt_SF_price : sf_Mt ({ cls := "SplitFares", name := "price", desc := "(III)I" } : Jvm.MethodName) prog_1_method_4_code 4 (some .int) 3 := ⟨sw_393, sw_1, ⟨by decide, by decide, by decide +kernel⟩, by decide⟩
theorem dd_SF_price_0 : decode prog_1_method_4_code 0 = .ok (.iload_n 1, 1) := by decide +kernel
theorem dd_SF_price_1 : decode prog_1_method_4_code 1 = .ok (.iload_n 2, 1) := by decide +kernel
theorem dd_SF_price_2 : decode prog_1_method_4_code 2 = .ok (.iload_n 3, 1) := by decide +kernel
theorem dd_SF_price_3 : decode prog_1_method_4_code 3 = .ok (.invokestatic 92, 3) := by decide +kernel
theorem dd_SF_price_6 : decode prog_1_method_4_code 6 = .ok (.ifCond .eq 19, 3) := by decide +kernel
theorem dd_SF_price_9 : decode prog_1_method_4_code 9 = .ok (.aload_n 0, 1) := by decide +kernel
theorem dd_SF_price_10 : decode prog_1_method_4_code 10 = .ok (.getfield 12, 3) := by decide +kernel
theorem dd_SF_price_13 : decode prog_1_method_4_code 13 = .ok (.getfield 67, 3) := by decide +kernel
theorem dd_SF_price_16 : decode prog_1_method_4_code 16 = .ok (.iload_n 1, 1) := by decide +kernel
theorem dd_SF_price_17 : decode prog_1_method_4_code 17 = .ok (.iload_n 2, 1) := by decide +kernel
theorem dd_SF_price_18 : decode prog_1_method_4_code 18 = .ok (.iload_n 3, 1) := by decide +kernel
theorem dd_SF_price_19 : decode prog_1_method_4_code 19 = .ok (.invokevirtual 96, 3) := by decide +kernel
theorem dd_SF_price_22 : decode prog_1_method_4_code 22 = .ok (.goto 4, 3) := by decide +kernel
theorem dd_SF_price_25 : decode prog_1_method_4_code 25 = .ok (.iconst (-1), 1) := by decide +kernel
theorem dd_SF_price_26 : decode prog_1_method_4_code 26 = .ok (.ireturn, 1) := by decide +kernel
def jx_SF_price (p0 : Option Nat) (p1 : Int32) (p2 : Int32) (p3 : Int32) : sf_M (Int32) :=
  sf_bnd (jx_SF_isBought p1 p2 p3) fun x1 =>
  if x1 = 0 then (
  sf_ret (-1 : Int32)
  ) else (
  sf_bnd (sf_gR 0 0 p0) fun x3 =>
  sf_bnd (sf_gR 1 0 x3) fun x4 =>
  sf_bnd (sf_rc 4 x4 (jx_Office_costOf x4 p1 p2 p3)) fun x5 =>
  sf_ret x5
  )
set_option maxRecDepth 20000 in
set_option maxHeartbeats 4000000 in
theorem ok_SF_price (p0 : Option Nat) (p1 : Int32) (p2 : Int32) (p3 : Int32) : sf_Ok ({ cls := "SplitFares", name := "price", desc := "(III)I" } : Jvm.MethodName) prog_1_method_4_code 4 (some .int) 4 [sf_rv p0, .int p1, .int p2, .int p3] (jx_SF_price p0 p1 p2 p3) (fun r => some (.int r)) := by
  refine sf_Ok.of (env := [some (sf_rv p0), some (.int p1), some (.int p2), some (.int p3)]) (plainFor_of_name (by decide)) [false, false, false, false] (fun G => ⟨pk_r, pk_i, pk_i, pk_i, trivial⟩) (Nat.le_of_ble_eq_true rfl) rfl (fun X => ?_)
  unfold jx_SF_price
  refine fp_iload_n (i := 1) (x := p1) dd_SF_price_0 rfl rfl (fr_pc (pc' := 1) rfl ?_)
  refine fp_iload_n (i := 2) (x := p2) dd_SF_price_1 rfl rfl (fr_pc (pc' := 2) rfl ?_)
  refine fp_iload_n (i := 3) (x := p3) dd_SF_price_2 rfl rfl (fr_pc (pc' := 3) rfl ?_)
  refine fr_callS (stk := []) (ok_SF_isBought p1 p2 p3) mt_SF_isBought rfl rfl sw_394 sw_395 (by decide) (Nat.le_of_ble_eq_true rfl) dd_SF_price_3 (fun x1 => fr_to (pc' := 6) (env' := [some (sf_rv p0), some (.int p1), some (.int p2), some (.int p3)]) (stk' := [.int x1]) rfl rfl rfl ?_)
  refine fr_if_eq (tgt := 25) dd_SF_price_6 rfl (fun _ => ?_) (fun _ => ?_)
  · refine fp_iconst (v := (-1 : Int32)) dd_SF_price_25 (by decide) (fr_pc (pc' := 26) rfl ?_)
    exact fr_iret (v := (-1 : Int32)) rfl rfl dd_SF_price_26
  · refine fr_pc (pc' := 9) rfl ?_
    refine fp_aload_n (i := 0) (r := p0) dd_SF_price_9 rfl rfl (fr_pc (pc' := 10) rfl ?_)
    refine fr_gR cl_0 0 (by decide) rfl sw_315 dd_SF_price_10 (fun x3 => fr_pc (pc' := 13) rfl ?_)
    refine fr_gR cl_1 0 (by decide) rfl sw_192 dd_SF_price_13 (fun x4 => fr_pc (pc' := 16) rfl ?_)
    refine fp_iload_n (i := 1) (x := p1) dd_SF_price_16 rfl rfl (fr_pc (pc' := 17) rfl ?_)
    refine fp_iload_n (i := 2) (x := p2) dd_SF_price_17 rfl rfl (fr_pc (pc' := 18) rfl ?_)
    refine fp_iload_n (i := 3) (x := p3) dd_SF_price_18 rfl rfl (fr_pc (pc' := 19) rfl ?_)
    refine fr_callV (stk := []) (As := [.int p1, .int p2, .int p3]) cl_4 (ok_Office_costOf x4 p1 p2 p3) mt_Office_costOf rfl rfl sw_403 sw_404 sw_405 (by decide) (Nat.le_of_ble_eq_true rfl) dd_SF_price_19 (fun x5 => fr_to (pc' := 22) (env' := [some (sf_rv p0), some (.int p1), some (.int p2), some (.int p3)]) (stk' := [.int x5]) rfl rfl rfl ?_)
    refine fp_goto (tgt := 26) dd_SF_price_22 rfl ?_
    exact fr_iret (v := x5) rfl rfl dd_SF_price_26
theorem mt_SF_isBarred : sf_Mt ({ cls := "SplitFares", name := "isBarred", desc := "(IIII)I" } : Jvm.MethodName) prog_1_method_5_code 5 (some .int) 4 := ⟨sw_462, sw_1, ⟨by decide, by decide, by decide +kernel⟩, by decide⟩
theorem dd_SF_isBarred_0 : decode prog_1_method_5_code 0 = .ok (.iload_n 2, 1) := by decide +kernel
theorem dd_SF_isBarred_1 : decode prog_1_method_5_code 1 = .ok (.iload_n 3, 1) := by decide +kernel
theorem dd_SF_isBarred_2 : decode prog_1_method_5_code 2 = .ok (.iload 4, 2) := by decide +kernel
theorem dd_SF_isBarred_4 : decode prog_1_method_5_code 4 = .ok (.invokestatic 92, 3) := by decide +kernel
theorem dd_SF_isBarred_7 : decode prog_1_method_5_code 7 = .ok (.ifCond .eq 17, 3) := by decide +kernel
theorem dd_SF_isBarred_10 : decode prog_1_method_5_code 10 = .ok (.aload_n 0, 1) := by decide +kernel
theorem dd_SF_isBarred_11 : decode prog_1_method_5_code 11 = .ok (.getfield 12, 3) := by decide +kernel
theorem dd_SF_isBarred_14 : decode prog_1_method_5_code 14 = .ok (.getfield 67, 3) := by decide +kernel
theorem dd_SF_isBarred_17 : decode prog_1_method_5_code 17 = .ok (.iload_n 1, 1) := by decide +kernel
theorem dd_SF_isBarred_18 : decode prog_1_method_5_code 18 = .ok (.invokevirtual 79, 3) := by decide +kernel
theorem dd_SF_isBarred_21 : decode prog_1_method_5_code 21 = .ok (.ifCond .ne 5, 3) := by decide +kernel
theorem dd_SF_isBarred_26 : decode prog_1_method_5_code 26 = .ok (.aload_n 0, 1) := by decide +kernel
theorem dd_SF_isBarred_27 : decode prog_1_method_5_code 27 = .ok (.getfield 12, 3) := by decide +kernel
theorem dd_SF_isBarred_30 : decode prog_1_method_5_code 30 = .ok (.getfield 67, 3) := by decide +kernel
theorem dd_SF_isBarred_33 : decode prog_1_method_5_code 33 = .ok (.iload_n 1, 1) := by decide +kernel
theorem dd_SF_isBarred_34 : decode prog_1_method_5_code 34 = .ok (.iload_n 2, 1) := by decide +kernel
theorem dd_SF_isBarred_35 : decode prog_1_method_5_code 35 = .ok (.iload_n 3, 1) := by decide +kernel
theorem dd_SF_isBarred_36 : decode prog_1_method_5_code 36 = .ok (.iload 4, 2) := by decide +kernel
theorem dd_SF_isBarred_38 : decode prog_1_method_5_code 38 = .ok (.invokevirtual 99, 3) := by decide +kernel
theorem dd_SF_isBarred_41 : decode prog_1_method_5_code 41 = .ok (.ifCond .eq 7, 3) := by decide +kernel
theorem dd_SF_isBarred_44 : decode prog_1_method_5_code 44 = .ok (.iconst 1, 1) := by decide +kernel
theorem dd_SF_isBarred_45 : decode prog_1_method_5_code 45 = .ok (.goto 4, 3) := by decide +kernel
theorem dd_SF_isBarred_48 : decode prog_1_method_5_code 48 = .ok (.iconst 0, 1) := by decide +kernel
theorem dd_SF_isBarred_49 : decode prog_1_method_5_code 49 = .ok (.ireturn, 1) := by decide +kernel
theorem dd_SF_isBarred_24 : decode prog_1_method_5_code 24 = .ok (.iconst (-1), 1) := by decide +kernel
theorem dd_SF_isBarred_25 : decode prog_1_method_5_code 25 = .ok (.ireturn, 1) := by decide +kernel
def jx_SF_isBarred (p0 : Option Nat) (p1 : Int32) (p2 : Int32) (p3 : Int32) (p4 : Int32) : sf_M (Int32) :=
  sf_bnd (jx_SF_isBought p2 p3 p4) fun x1 =>
  if x1 = 0 then (
  sf_ret (-1 : Int32)
  ) else (
  sf_bnd (sf_gR 0 0 p0) fun x3 =>
  sf_bnd (sf_gR 1 0 x3) fun x4 =>
  sf_bnd (sf_rc 4 x4 (jx_Office_hasTrain x4 p1)) fun x5 =>
  if x5 = 0 then (
  sf_ret (-1 : Int32)
  ) else (
  sf_bnd (sf_gR 0 0 p0) fun x7 =>
  sf_bnd (sf_gR 1 0 x7) fun x8 =>
  sf_bnd (sf_rc 4 x8 (jx_Office_bars x8 p1 p2 p3 p4)) fun x9 =>
  if x9 = 0 then (
  sf_ret (0 : Int32)
  ) else (
  sf_ret (1 : Int32)
  )
  )
  )
set_option maxRecDepth 20000 in
set_option maxHeartbeats 4000000 in
theorem ok_SF_isBarred (p0 : Option Nat) (p1 : Int32) (p2 : Int32) (p3 : Int32) (p4 : Int32) : sf_Ok ({ cls := "SplitFares", name := "isBarred", desc := "(IIII)I" } : Jvm.MethodName) prog_1_method_5_code 5 (some .int) 3 [sf_rv p0, .int p1, .int p2, .int p3, .int p4] (jx_SF_isBarred p0 p1 p2 p3 p4) (fun r => some (.int r)) := by
  refine sf_Ok.of (env := [some (sf_rv p0), some (.int p1), some (.int p2), some (.int p3), some (.int p4)]) (plainFor_of_name (by decide)) [false, false, false, false, false] (fun G => ⟨pk_r, pk_i, pk_i, pk_i, pk_i, trivial⟩) (Nat.le_of_ble_eq_true rfl) rfl (fun X => ?_)
  unfold jx_SF_isBarred
  refine fp_iload_n (i := 2) (x := p2) dd_SF_isBarred_0 rfl rfl (fr_pc (pc' := 1) rfl ?_)
  refine fp_iload_n (i := 3) (x := p3) dd_SF_isBarred_1 rfl rfl (fr_pc (pc' := 2) rfl ?_)
  refine fp_iload (i := 4) (x := p4) dd_SF_isBarred_2 rfl (fr_pc (pc' := 4) rfl ?_)
  refine fr_callS (stk := []) (ok_SF_isBought p2 p3 p4) mt_SF_isBought rfl rfl sw_394 sw_395 (by decide) (Nat.le_of_ble_eq_true rfl) dd_SF_isBarred_4 (fun x1 => fr_to (pc' := 7) (env' := [some (sf_rv p0), some (.int p1), some (.int p2), some (.int p3), some (.int p4)]) (stk' := [.int x1]) rfl rfl rfl ?_)
  refine fr_if_eq (tgt := 24) dd_SF_isBarred_7 rfl (fun _ => ?_) (fun _ => ?_)
  · refine fp_iconst (v := (-1 : Int32)) dd_SF_isBarred_24 (by decide) (fr_pc (pc' := 25) rfl ?_)
    exact fr_iret (v := (-1 : Int32)) rfl rfl dd_SF_isBarred_25
  · refine fr_pc (pc' := 10) rfl ?_
    refine fp_aload_n (i := 0) (r := p0) dd_SF_isBarred_10 rfl rfl (fr_pc (pc' := 11) rfl ?_)
    refine fr_gR cl_0 0 (by decide) rfl sw_315 dd_SF_isBarred_11 (fun x3 => fr_pc (pc' := 14) rfl ?_)
    refine fr_gR cl_1 0 (by decide) rfl sw_192 dd_SF_isBarred_14 (fun x4 => fr_pc (pc' := 17) rfl ?_)
    refine fp_iload_n (i := 1) (x := p1) dd_SF_isBarred_17 rfl rfl (fr_pc (pc' := 18) rfl ?_)
    refine fr_callV (stk := []) (As := [.int p1]) cl_4 (ok_Office_hasTrain x4 p1) mt_Office_hasTrain rfl rfl sw_386 sw_387 sw_388 (by decide) (Nat.le_of_ble_eq_true rfl) dd_SF_isBarred_18 (fun x5 => fr_to (pc' := 21) (env' := [some (sf_rv p0), some (.int p1), some (.int p2), some (.int p3), some (.int p4)]) (stk' := [.int x5]) rfl rfl rfl ?_)
    refine fr_if_ne (tgt := 26) dd_SF_isBarred_21 rfl (fun _ => ?_) (fun _ => ?_)
    · refine fr_pc (pc' := 24) rfl ?_
      refine fp_iconst (v := (-1 : Int32)) dd_SF_isBarred_24 (by decide) (fr_pc (pc' := 25) rfl ?_)
      exact fr_iret (v := (-1 : Int32)) rfl rfl dd_SF_isBarred_25
    · refine fp_aload_n (i := 0) (r := p0) dd_SF_isBarred_26 rfl rfl (fr_pc (pc' := 27) rfl ?_)
      refine fr_gR cl_0 0 (by decide) rfl sw_315 dd_SF_isBarred_27 (fun x7 => fr_pc (pc' := 30) rfl ?_)
      refine fr_gR cl_1 0 (by decide) rfl sw_192 dd_SF_isBarred_30 (fun x8 => fr_pc (pc' := 33) rfl ?_)
      refine fp_iload_n (i := 1) (x := p1) dd_SF_isBarred_33 rfl rfl (fr_pc (pc' := 34) rfl ?_)
      refine fp_iload_n (i := 2) (x := p2) dd_SF_isBarred_34 rfl rfl (fr_pc (pc' := 35) rfl ?_)
      refine fp_iload_n (i := 3) (x := p3) dd_SF_isBarred_35 rfl rfl (fr_pc (pc' := 36) rfl ?_)
      refine fp_iload (i := 4) (x := p4) dd_SF_isBarred_36 rfl (fr_pc (pc' := 38) rfl ?_)
      refine fr_callV (stk := []) (As := [.int p1, .int p2, .int p3, .int p4]) cl_4 (ok_Office_bars x8 p1 p2 p3 p4) mt_Office_bars rfl rfl sw_463 sw_464 sw_465 (by decide) (Nat.le_of_ble_eq_true rfl) dd_SF_isBarred_38 (fun x9 => fr_to (pc' := 41) (env' := [some (sf_rv p0), some (.int p1), some (.int p2), some (.int p3), some (.int p4)]) (stk' := [.int x9]) rfl rfl rfl ?_)
      refine fr_if_eq (tgt := 48) dd_SF_isBarred_41 rfl (fun _ => ?_) (fun _ => ?_)
      · refine fp_iconst (v := (0 : Int32)) dd_SF_isBarred_48 (by decide) (fr_pc (pc' := 49) rfl ?_)
        exact fr_iret (v := (0 : Int32)) rfl rfl dd_SF_isBarred_49
      · refine fr_pc (pc' := 44) rfl ?_
        refine fp_iconst (v := (1 : Int32)) dd_SF_isBarred_44 (by decide) (fr_pc (pc' := 45) rfl ?_)
        refine fp_goto (tgt := 49) dd_SF_isBarred_45 rfl ?_
        exact fr_iret (v := (1 : Int32)) rfl rfl dd_SF_isBarred_49
theorem mt_SF_held : sf_Mt ({ cls := "SplitFares", name := "held", desc := "(III)I" } : Jvm.MethodName) prog_1_method_6_code 4 (some .int) 3 := ⟨sw_471, sw_1, ⟨by decide, by decide, by decide +kernel⟩, by decide⟩
theorem dd_SF_held_0 : decode prog_1_method_6_code 0 = .ok (.iload_n 1, 1) := by decide +kernel
theorem dd_SF_held_1 : decode prog_1_method_6_code 1 = .ok (.ifCond .lt 16, 3) := by decide +kernel
theorem dd_SF_held_4 : decode prog_1_method_6_code 4 = .ok (.iload_n 1, 1) := by decide +kernel
theorem dd_SF_held_5 : decode prog_1_method_6_code 5 = .ok (.iconst 3, 1) := by decide +kernel
theorem dd_SF_held_6 : decode prog_1_method_6_code 6 = .ok (.if_icmp .ge 11, 3) := by decide +kernel
theorem dd_SF_held_9 : decode prog_1_method_6_code 9 = .ok (.iload_n 2, 1) := by decide +kernel
theorem dd_SF_held_10 : decode prog_1_method_6_code 10 = .ok (.iload_n 3, 1) := by decide +kernel
theorem dd_SF_held_11 : decode prog_1_method_6_code 11 = .ok (.invokestatic 103, 3) := by decide +kernel
theorem dd_SF_held_14 : decode prog_1_method_6_code 14 = .ok (.ifCond .ne 5, 3) := by decide +kernel
theorem dd_SF_held_19 : decode prog_1_method_6_code 19 = .ok (.aload_n 0, 1) := by decide +kernel
theorem dd_SF_held_20 : decode prog_1_method_6_code 20 = .ok (.getfield 12, 3) := by decide +kernel
theorem dd_SF_held_23 : decode prog_1_method_6_code 23 = .ok (.getfield 67, 3) := by decide +kernel
theorem dd_SF_held_26 : decode prog_1_method_6_code 26 = .ok (.getfield 107, 3) := by decide +kernel
theorem dd_SF_held_29 : decode prog_1_method_6_code 29 = .ok (.iload_n 1, 1) := by decide +kernel
theorem dd_SF_held_30 : decode prog_1_method_6_code 30 = .ok (.iload_n 2, 1) := by decide +kernel
theorem dd_SF_held_31 : decode prog_1_method_6_code 31 = .ok (.iload_n 3, 1) := by decide +kernel
theorem dd_SF_held_32 : decode prog_1_method_6_code 32 = .ok (.invokevirtual 111, 3) := by decide +kernel
theorem dd_SF_held_35 : decode prog_1_method_6_code 35 = .ok (.ireturn, 1) := by decide +kernel
theorem dd_SF_held_17 : decode prog_1_method_6_code 17 = .ok (.iconst (-1), 1) := by decide +kernel
theorem dd_SF_held_18 : decode prog_1_method_6_code 18 = .ok (.ireturn, 1) := by decide +kernel
def jx_SF_held (p0 : Option Nat) (p1 : Int32) (p2 : Int32) (p3 : Int32) : sf_M (Int32) :=
  if p1 < 0 then (
  sf_ret (-1 : Int32)
  ) else (
  if (3 : Int32) ≤ p1 then (
  sf_ret (-1 : Int32)
  ) else (
  sf_bnd (jx_SF_isLeg p2 p3) fun x3 =>
  if x3 = 0 then (
  sf_ret (-1 : Int32)
  ) else (
  sf_bnd (sf_gR 0 0 p0) fun x5 =>
  sf_bnd (sf_gR 1 0 x5) fun x6 =>
  sf_bnd (sf_gR 4 0 x6) fun x7 =>
  sf_bnd (sf_rc 5 x7 (jx_Pocket_heldOf x7 p1 p2 p3)) fun x8 =>
  sf_ret x8
  )
  )
  )
set_option maxRecDepth 20000 in
set_option maxHeartbeats 4000000 in
theorem ok_SF_held (p0 : Option Nat) (p1 : Int32) (p2 : Int32) (p3 : Int32) : sf_Ok ({ cls := "SplitFares", name := "held", desc := "(III)I" } : Jvm.MethodName) prog_1_method_6_code 4 (some .int) 2 [sf_rv p0, .int p1, .int p2, .int p3] (jx_SF_held p0 p1 p2 p3) (fun r => some (.int r)) := by
  refine sf_Ok.of (env := [some (sf_rv p0), some (.int p1), some (.int p2), some (.int p3)]) (plainFor_of_name (by decide)) [false, false, false, false] (fun G => ⟨pk_r, pk_i, pk_i, pk_i, trivial⟩) (Nat.le_of_ble_eq_true rfl) rfl (fun X => ?_)
  unfold jx_SF_held
  refine fp_iload_n (i := 1) (x := p1) dd_SF_held_0 rfl rfl (fr_pc (pc' := 1) rfl ?_)
  refine fr_if_lt (tgt := 17) dd_SF_held_1 rfl (fun _ => ?_) (fun _ => ?_)
  · refine fp_iconst (v := (-1 : Int32)) dd_SF_held_17 (by decide) (fr_pc (pc' := 18) rfl ?_)
    exact fr_iret (v := (-1 : Int32)) rfl rfl dd_SF_held_18
  · refine fr_pc (pc' := 4) rfl ?_
    refine fp_iload_n (i := 1) (x := p1) dd_SF_held_4 rfl rfl (fr_pc (pc' := 5) rfl ?_)
    refine fp_iconst (v := (3 : Int32)) dd_SF_held_5 (by decide) (fr_pc (pc' := 6) rfl ?_)
    refine fr_icmp_ge (tgt := 17) dd_SF_held_6 rfl (fun _ => ?_) (fun _ => ?_)
    · refine fp_iconst (v := (-1 : Int32)) dd_SF_held_17 (by decide) (fr_pc (pc' := 18) rfl ?_)
      exact fr_iret (v := (-1 : Int32)) rfl rfl dd_SF_held_18
    · refine fr_pc (pc' := 9) rfl ?_
      refine fp_iload_n (i := 2) (x := p2) dd_SF_held_9 rfl rfl (fr_pc (pc' := 10) rfl ?_)
      refine fp_iload_n (i := 3) (x := p3) dd_SF_held_10 rfl rfl (fr_pc (pc' := 11) rfl ?_)
      refine fr_callS (stk := []) (ok_SF_isLeg p2 p3) mt_SF_isLeg rfl rfl sw_397 sw_398 (by decide) (Nat.le_of_ble_eq_true rfl) dd_SF_held_11 (fun x3 => fr_to (pc' := 14) (env' := [some (sf_rv p0), some (.int p1), some (.int p2), some (.int p3)]) (stk' := [.int x3]) rfl rfl rfl ?_)
      refine fr_if_ne (tgt := 19) dd_SF_held_14 rfl (fun _ => ?_) (fun _ => ?_)
      · refine fr_pc (pc' := 17) rfl ?_
        refine fp_iconst (v := (-1 : Int32)) dd_SF_held_17 (by decide) (fr_pc (pc' := 18) rfl ?_)
        exact fr_iret (v := (-1 : Int32)) rfl rfl dd_SF_held_18
      · refine fp_aload_n (i := 0) (r := p0) dd_SF_held_19 rfl rfl (fr_pc (pc' := 20) rfl ?_)
        refine fr_gR cl_0 0 (by decide) rfl sw_315 dd_SF_held_20 (fun x5 => fr_pc (pc' := 23) rfl ?_)
        refine fr_gR cl_1 0 (by decide) rfl sw_192 dd_SF_held_23 (fun x6 => fr_pc (pc' := 26) rfl ?_)
        refine fr_gR cl_4 0 (by decide) rfl sw_88 dd_SF_held_26 (fun x7 => fr_pc (pc' := 29) rfl ?_)
        refine fp_iload_n (i := 1) (x := p1) dd_SF_held_29 rfl rfl (fr_pc (pc' := 30) rfl ?_)
        refine fp_iload_n (i := 2) (x := p2) dd_SF_held_30 rfl rfl (fr_pc (pc' := 31) rfl ?_)
        refine fp_iload_n (i := 3) (x := p3) dd_SF_held_31 rfl rfl (fr_pc (pc' := 32) rfl ?_)
        refine fr_callV (stk := []) (As := [.int p1, .int p2, .int p3]) cl_5 (ok_Pocket_heldOf x7 p1 p2 p3) mt_Pocket_heldOf rfl rfl sw_472 sw_473 sw_474 (by decide) (Nat.le_of_ble_eq_true rfl) dd_SF_held_32 (fun x8 => fr_to (pc' := 35) (env' := [some (sf_rv p0), some (.int p1), some (.int p2), some (.int p3)]) (stk' := [.int x8]) rfl rfl rfl ?_)
        exact fr_iret (v := x8) rfl rfl dd_SF_held_35
theorem mt_SF_terms : sf_Mt ({ cls := "SplitFares", name := "terms", desc := "(II)I" } : Jvm.MethodName) prog_1_method_7_code 4 (some .int) 2 := ⟨sw_479, sw_1, ⟨by decide, by decide, by decide +kernel⟩, by decide⟩
theorem dd_SF_terms_0 : decode prog_1_method_7_code 0 = .ok (.iload_n 1, 1) := by decide +kernel
theorem dd_SF_terms_1 : decode prog_1_method_7_code 1 = .ok (.ifCond .lt 24, 3) := by decide +kernel
theorem dd_SF_terms_4 : decode prog_1_method_7_code 4 = .ok (.iload_n 1, 1) := by decide +kernel
theorem dd_SF_terms_5 : decode prog_1_method_7_code 5 = .ok (.getstatic 116, 3) := by decide +kernel
theorem dd_SF_terms_8 : decode prog_1_method_7_code 8 = .ok (.arraylength, 1) := by decide +kernel
theorem dd_SF_terms_9 : decode prog_1_method_7_code 9 = .ok (.if_icmp .ge 16, 3) := by decide +kernel
theorem dd_SF_terms_12 : decode prog_1_method_7_code 12 = .ok (.iload_n 2, 1) := by decide +kernel
theorem dd_SF_terms_13 : decode prog_1_method_7_code 13 = .ok (.ifCond .lt 12, 3) := by decide +kernel
theorem dd_SF_terms_16 : decode prog_1_method_7_code 16 = .ok (.iload_n 2, 1) := by decide +kernel
theorem dd_SF_terms_17 : decode prog_1_method_7_code 17 = .ok (.getstatic 116, 3) := by decide +kernel
theorem dd_SF_terms_20 : decode prog_1_method_7_code 20 = .ok (.iload_n 1, 1) := by decide +kernel
theorem dd_SF_terms_21 : decode prog_1_method_7_code 21 = .ok (.iaload, 1) := by decide +kernel
theorem dd_SF_terms_22 : decode prog_1_method_7_code 22 = .ok (.if_icmp .le 9, 3) := by decide +kernel
theorem dd_SF_terms_31 : decode prog_1_method_7_code 31 = .ok (.aload_n 0, 1) := by decide +kernel
theorem dd_SF_terms_32 : decode prog_1_method_7_code 32 = .ok (.getfield 12, 3) := by decide +kernel
theorem dd_SF_terms_35 : decode prog_1_method_7_code 35 = .ok (.getfield 67, 3) := by decide +kernel
theorem dd_SF_terms_38 : decode prog_1_method_7_code 38 = .ok (.iload_n 1, 1) := by decide +kernel
theorem dd_SF_terms_39 : decode prog_1_method_7_code 39 = .ok (.invokevirtual 122, 3) := by decide +kernel
theorem dd_SF_terms_42 : decode prog_1_method_7_code 42 = .ok (.istore_n 3, 1) := by decide +kernel
theorem dd_SF_terms_43 : decode prog_1_method_7_code 43 = .ok (.aload_n 0, 1) := by decide +kernel
theorem dd_SF_terms_44 : decode prog_1_method_7_code 44 = .ok (.getfield 12, 3) := by decide +kernel
theorem dd_SF_terms_47 : decode prog_1_method_7_code 47 = .ok (.getfield 67, 3) := by decide +kernel
theorem dd_SF_terms_50 : decode prog_1_method_7_code 50 = .ok (.iload_n 1, 1) := by decide +kernel
theorem dd_SF_terms_51 : decode prog_1_method_7_code 51 = .ok (.iload_n 2, 1) := by decide +kernel
theorem dd_SF_terms_52 : decode prog_1_method_7_code 52 = .ok (.invokevirtual 125, 3) := by decide +kernel
theorem dd_SF_terms_55 : decode prog_1_method_7_code 55 = .ok (.aload_n 0, 1) := by decide +kernel
theorem dd_SF_terms_56 : decode prog_1_method_7_code 56 = .ok (.getfield 12, 3) := by decide +kernel
theorem dd_SF_terms_59 : decode prog_1_method_7_code 59 = .ok (.getfield 129, 3) := by decide +kernel
theorem dd_SF_terms_62 : decode prog_1_method_7_code 62 = .ok (.invokevirtual 133, 3) := by decide +kernel
theorem dd_SF_terms_65 : decode prog_1_method_7_code 65 = .ok (.aload_n 0, 1) := by decide +kernel
theorem dd_SF_terms_66 : decode prog_1_method_7_code 66 = .ok (.iload_n 3, 1) := by decide +kernel
theorem dd_SF_terms_67 : decode prog_1_method_7_code 67 = .ok (.invokevirtual 138, 3) := by decide +kernel
theorem dd_SF_terms_70 : decode prog_1_method_7_code 70 = .ok (.ireturn, 1) := by decide +kernel
theorem dd_SF_terms_25 : decode prog_1_method_7_code 25 = .ok (.aload_n 0, 1) := by decide +kernel
theorem dd_SF_terms_26 : decode prog_1_method_7_code 26 = .ok (.iconst (-1), 1) := by decide +kernel
theorem dd_SF_terms_27 : decode prog_1_method_7_code 27 = .ok (.invokevirtual 119, 3) := by decide +kernel
theorem dd_SF_terms_30 : decode prog_1_method_7_code 30 = .ok (.ireturn, 1) := by decide +kernel
def jx_SF_terms (p0 : Option Nat) (p1 : Int32) (p2 : Int32) : sf_M (Int32) :=
  sf_or (α := Int32) (β := (Unit)) (
  if p1 < 0 then (
  sf_ret (.inr ())
  ) else (
  if (3 : Int32) ≤ p1 then (
  sf_ret (.inr ())
  ) else (
  if p2 < 0 then (
  sf_ret (.inr ())
  ) else (
  sf_bnd (sf_cst [999, 10, 9] p1) fun x4 =>
  if p2 ≤ x4 then (
  sf_bnd (sf_gR 0 0 p0) fun x6 =>
  sf_bnd (sf_gR 1 0 x6) fun x7 =>
  sf_bnd (sf_rc 4 x7 (jx_Office_term x7 p1)) fun x8 =>
  sf_bnd (sf_gR 0 0 p0) fun x9 =>
  sf_bnd (sf_gR 1 0 x9) fun x10 =>
  sf_bnd (sf_rc 4 x10 (jx_Office_setTerm x10 p1 p2)) fun _ =>
  sf_bnd (sf_gR 0 0 p0) fun x12 =>
  sf_bnd (sf_gR 1 2 x12) fun x13 =>
  sf_bnd (sf_rc 2 x13 (jx_Log_clear x13)) fun _ =>
  sf_bnd (sf_rc 0 p0 (jx_SF_accepted p0 x8)) fun x15 =>
  sf_ret (.inl x15)
  ) else (
  sf_ret (.inr ())
  )
  )
  )
  )
  ) (fun v16 =>
  sf_bnd (sf_rc 0 p0 (jx_SF_refused p0 (-1 : Int32))) fun x17 =>
  sf_ret x17
  )
set_option maxRecDepth 20000 in
set_option maxHeartbeats 4000000 in
theorem ok_SF_terms (p0 : Option Nat) (p1 : Int32) (p2 : Int32) : sf_Ok ({ cls := "SplitFares", name := "terms", desc := "(II)I" } : Jvm.MethodName) prog_1_method_7_code 4 (some .int) 1 [sf_rv p0, .int p1, .int p2] (jx_SF_terms p0 p1 p2) (fun r => some (.int r)) := by
  refine sf_Ok.of (env := [some (sf_rv p0), some (.int p1), some (.int p2), none]) (plainFor_of_name (by decide)) [false, false, false] (fun G => ⟨pk_r, pk_i, pk_i, trivial⟩) (Nat.le_of_ble_eq_true rfl) rfl (fun X => ?_)
  unfold jx_SF_terms
  refine fp_iload_n (i := 1) (x := p1) dd_SF_terms_0 rfl rfl (fr_pc (pc' := 1) rfl ?_)
  refine fr_or (l1 := (fun (v16 : (Unit)) => sf_p 25 [some (sf_rv p0), some (.int p1), some (.int p2), none] [])) ?_ (fun v16 => ?_)
  · refine fr_if_lt (tgt := 25) dd_SF_terms_1 rfl (fun _ => ?_) (fun _ => ?_)
    · exact fr_ret rfl
    · refine fr_pc (pc' := 4) rfl ?_
      refine fp_iload_n (i := 1) (x := p1) dd_SF_terms_4 rfl rfl (fr_pc (pc' := 5) rfl ?_)
      refine fp_gets0 sw_480 dd_SF_terms_5 (fr_pc (pc' := 8) rfl ?_)
      refine fp_clen0 dd_SF_terms_8 (fr_pc (pc' := 9) rfl ?_)
      refine fr_icmp_ge (tgt := 25) dd_SF_terms_9 rfl (fun _ => ?_) (fun _ => ?_)
      · exact fr_ret rfl
      · refine fr_pc (pc' := 12) rfl ?_
        refine fp_iload_n (i := 2) (x := p2) dd_SF_terms_12 rfl rfl (fr_pc (pc' := 13) rfl ?_)
        refine fr_if_lt (tgt := 25) dd_SF_terms_13 rfl (fun _ => ?_) (fun _ => ?_)
        · exact fr_ret rfl
        · refine fr_pc (pc' := 16) rfl ?_
          refine fp_iload_n (i := 2) (x := p2) dd_SF_terms_16 rfl rfl (fr_pc (pc' := 17) rfl ?_)
          refine fp_gets0 sw_480 dd_SF_terms_17 (fr_pc (pc' := 20) rfl ?_)
          refine fp_iload_n (i := 1) (x := p1) dd_SF_terms_20 rfl rfl (fr_pc (pc' := 21) rfl ?_)
          refine fr_cst0 dd_SF_terms_21 (fun x4 => fr_pc (pc' := 22) rfl ?_)
          refine fr_icmp_le (tgt := 31) dd_SF_terms_22 rfl (fun _ => ?_) (fun _ => ?_)
          · refine fp_aload_n (i := 0) (r := p0) dd_SF_terms_31 rfl rfl (fr_pc (pc' := 32) rfl ?_)
            refine fr_gR cl_0 0 (by decide) rfl sw_315 dd_SF_terms_32 (fun x6 => fr_pc (pc' := 35) rfl ?_)
            refine fr_gR cl_1 0 (by decide) rfl sw_192 dd_SF_terms_35 (fun x7 => fr_pc (pc' := 38) rfl ?_)
            refine fp_iload_n (i := 1) (x := p1) dd_SF_terms_38 rfl rfl (fr_pc (pc' := 39) rfl ?_)
            refine fr_callV (stk := []) (As := [.int p1]) cl_4 (ok_Office_term x7 p1) mt_Office_term rfl rfl sw_482 sw_483 sw_484 (by decide) (Nat.le_of_ble_eq_true rfl) dd_SF_terms_39 (fun x8 => fr_to (pc' := 42) (env' := [some (sf_rv p0), some (.int p1), some (.int p2), none]) (stk' := [.int x8]) rfl rfl rfl ?_)
            refine fp_istore_n (i := 3) dd_SF_terms_42 rfl (Nat.le_of_ble_eq_true rfl) (fun _ => c1_i rfl) (fr_to (pc' := 43) (env' := [some (sf_rv p0), some (.int p1), some (.int p2), some (.int x8)]) (stk' := []) rfl rfl rfl ?_)
            refine fp_aload_n (i := 0) (r := p0) dd_SF_terms_43 rfl rfl (fr_pc (pc' := 44) rfl ?_)
            refine fr_gR cl_0 0 (by decide) rfl sw_315 dd_SF_terms_44 (fun x9 => fr_pc (pc' := 47) rfl ?_)
            refine fr_gR cl_1 0 (by decide) rfl sw_192 dd_SF_terms_47 (fun x10 => fr_pc (pc' := 50) rfl ?_)
            refine fp_iload_n (i := 1) (x := p1) dd_SF_terms_50 rfl rfl (fr_pc (pc' := 51) rfl ?_)
            refine fp_iload_n (i := 2) (x := p2) dd_SF_terms_51 rfl rfl (fr_pc (pc' := 52) rfl ?_)
            refine fr_callV (stk := []) (As := [.int p1, .int p2]) cl_4 (ok_Office_setTerm x10 p1 p2) mt_Office_setTerm rfl rfl sw_486 sw_487 sw_488 (by decide) (Nat.le_of_ble_eq_true rfl) dd_SF_terms_52 (fun u11 => fr_to (pc' := 55) (env' := [some (sf_rv p0), some (.int p1), some (.int p2), some (.int x8)]) (stk' := []) rfl rfl rfl ?_)
            refine fp_aload_n (i := 0) (r := p0) dd_SF_terms_55 rfl rfl (fr_pc (pc' := 56) rfl ?_)
            refine fr_gR cl_0 0 (by decide) rfl sw_315 dd_SF_terms_56 (fun x12 => fr_pc (pc' := 59) rfl ?_)
            refine fr_gR cl_1 2 (by decide) rfl sw_196 dd_SF_terms_59 (fun x13 => fr_pc (pc' := 62) rfl ?_)
            refine fr_callV (stk := []) (As := []) cl_2 (ok_Log_clear x13) mt_Log_clear rfl rfl sw_490 sw_491 sw_492 (by decide) (Nat.le_of_ble_eq_true rfl) dd_SF_terms_62 (fun u14 => fr_to (pc' := 65) (env' := [some (sf_rv p0), some (.int p1), some (.int p2), some (.int x8)]) (stk' := []) rfl rfl rfl ?_)
            refine fp_aload_n (i := 0) (r := p0) dd_SF_terms_65 rfl rfl (fr_pc (pc' := 66) rfl ?_)
            refine fp_iload_n (i := 3) (x := x8) dd_SF_terms_66 rfl rfl (fr_pc (pc' := 67) rfl ?_)
            refine fr_callV (stk := []) (As := [.int x8]) cl_0 (ok_SF_accepted p0 x8) mt_SF_accepted rfl rfl sw_378 sw_380 sp_2 (by decide) (Nat.le_of_ble_eq_true rfl) dd_SF_terms_67 (fun x15 => fr_to (pc' := 70) (env' := [some (sf_rv p0), some (.int p1), some (.int p2), some (.int x8)]) (stk' := [.int x15]) rfl rfl rfl ?_)
            exact fr_iret (v := x15) rfl rfl dd_SF_terms_70
          · refine fr_pc (pc' := 25) rfl ?_
            exact fr_ret rfl
  · refine fp_aload_n (i := 0) (r := p0) dd_SF_terms_25 rfl rfl (fr_pc (pc' := 26) rfl ?_)
    refine fp_iconst (v := (-1 : Int32)) dd_SF_terms_26 (by decide) (fr_pc (pc' := 27) rfl ?_)
    refine fr_callV (stk := []) (As := [.int (-1 : Int32)]) cl_0 (ok_SF_refused p0 (-1 : Int32)) mt_SF_refused rfl rfl sw_374 sw_376 sp_1 (by decide) (Nat.le_of_ble_eq_true rfl) dd_SF_terms_27 (fun x17 => fr_to (pc' := 30) (env' := [some (sf_rv p0), some (.int p1), some (.int p2), none]) (stk' := [.int x17]) rfl rfl rfl ?_)
    exact fr_iret (v := x17) rfl rfl dd_SF_terms_30
theorem mt_SF_feed : sf_Mt ({ cls := "SplitFares", name := "feed", desc := "(IIIII)I" } : Jvm.MethodName) prog_1_method_8_code 6 (some .int) 5 := ⟨sw_497, sw_1, ⟨by decide, by decide, by decide +kernel⟩, by decide⟩
theorem dd_SF_feed_0 : decode prog_1_method_8_code 0 = .ok (.aload_n 0, 1) := by decide +kernel
theorem dd_SF_feed_1 : decode prog_1_method_8_code 1 = .ok (.getfield 19, 3) := by decide +kernel
theorem dd_SF_feed_4 : decode prog_1_method_8_code 4 = .ok (.getfield 141, 3) := by decide +kernel
theorem dd_SF_feed_7 : decode prog_1_method_8_code 7 = .ok (.bipush 20, 2) := by decide +kernel
theorem dd_SF_feed_9 : decode prog_1_method_8_code 9 = .ok (.iadd, 1) := by decide +kernel
theorem dd_SF_feed_10 : decode prog_1_method_8_code 10 = .ok (.sipush 400, 3) := by decide +kernel
theorem dd_SF_feed_13 : decode prog_1_method_8_code 13 = .ok (.if_icmp .le 5, 3) := by decide +kernel
theorem dd_SF_feed_16 : decode prog_1_method_8_code 16 = .ok (.iconst (-1), 1) := by decide +kernel
theorem dd_SF_feed_17 : decode prog_1_method_8_code 17 = .ok (.ireturn, 1) := by decide +kernel
theorem dd_SF_feed_18 : decode prog_1_method_8_code 18 = .ok (.aload_n 0, 1) := by decide +kernel
theorem dd_SF_feed_19 : decode prog_1_method_8_code 19 = .ok (.getfield 19, 3) := by decide +kernel
theorem dd_SF_feed_22 : decode prog_1_method_8_code 22 = .ok (.iload_n 1, 1) := by decide +kernel
theorem dd_SF_feed_23 : decode prog_1_method_8_code 23 = .ok (.invokevirtual 144, 3) := by decide +kernel
theorem dd_SF_feed_26 : decode prog_1_method_8_code 26 = .ok (.aload_n 0, 1) := by decide +kernel
theorem dd_SF_feed_27 : decode prog_1_method_8_code 27 = .ok (.getfield 19, 3) := by decide +kernel
theorem dd_SF_feed_30 : decode prog_1_method_8_code 30 = .ok (.iload_n 2, 1) := by decide +kernel
theorem dd_SF_feed_31 : decode prog_1_method_8_code 31 = .ok (.invokevirtual 144, 3) := by decide +kernel
theorem dd_SF_feed_34 : decode prog_1_method_8_code 34 = .ok (.aload_n 0, 1) := by decide +kernel
theorem dd_SF_feed_35 : decode prog_1_method_8_code 35 = .ok (.getfield 19, 3) := by decide +kernel
theorem dd_SF_feed_38 : decode prog_1_method_8_code 38 = .ok (.iload_n 3, 1) := by decide +kernel
theorem dd_SF_feed_39 : decode prog_1_method_8_code 39 = .ok (.invokevirtual 144, 3) := by decide +kernel
theorem dd_SF_feed_42 : decode prog_1_method_8_code 42 = .ok (.aload_n 0, 1) := by decide +kernel
theorem dd_SF_feed_43 : decode prog_1_method_8_code 43 = .ok (.getfield 19, 3) := by decide +kernel
theorem dd_SF_feed_46 : decode prog_1_method_8_code 46 = .ok (.iload 4, 2) := by decide +kernel
theorem dd_SF_feed_48 : decode prog_1_method_8_code 48 = .ok (.invokevirtual 144, 3) := by decide +kernel
theorem dd_SF_feed_51 : decode prog_1_method_8_code 51 = .ok (.aload_n 0, 1) := by decide +kernel
theorem dd_SF_feed_52 : decode prog_1_method_8_code 52 = .ok (.getfield 19, 3) := by decide +kernel
theorem dd_SF_feed_55 : decode prog_1_method_8_code 55 = .ok (.iload 5, 2) := by decide +kernel
theorem dd_SF_feed_57 : decode prog_1_method_8_code 57 = .ok (.invokevirtual 144, 3) := by decide +kernel
theorem dd_SF_feed_60 : decode prog_1_method_8_code 60 = .ok (.aload_n 0, 1) := by decide +kernel
theorem dd_SF_feed_61 : decode prog_1_method_8_code 61 = .ok (.getfield 19, 3) := by decide +kernel
theorem dd_SF_feed_64 : decode prog_1_method_8_code 64 = .ok (.getfield 141, 3) := by decide +kernel
theorem dd_SF_feed_67 : decode prog_1_method_8_code 67 = .ok (.ireturn, 1) := by decide +kernel
def jx_SF_feed (p0 : Option Nat) (p1 : Int32) (p2 : Int32) (p3 : Int32) (p4 : Int32) (p5 : Int32) : sf_M (Int32) :=
  sf_bnd (sf_gR 0 1 p0) fun x1 =>
  sf_bnd (sf_gI 8 1 x1) fun x2 =>
  if (x2 + (20 : Int32)) ≤ (400 : Int32) then (
  sf_bnd (sf_gR 0 1 p0) fun x4 =>
  sf_bnd (sf_rc 8 x4 (jx_Tape_put x4 p1)) fun _ =>
  sf_bnd (sf_gR 0 1 p0) fun x6 =>
  sf_bnd (sf_rc 8 x6 (jx_Tape_put x6 p2)) fun _ =>
  sf_bnd (sf_gR 0 1 p0) fun x8 =>
  sf_bnd (sf_rc 8 x8 (jx_Tape_put x8 p3)) fun _ =>
  sf_bnd (sf_gR 0 1 p0) fun x10 =>
  sf_bnd (sf_rc 8 x10 (jx_Tape_put x10 p4)) fun _ =>
  sf_bnd (sf_gR 0 1 p0) fun x12 =>
  sf_bnd (sf_rc 8 x12 (jx_Tape_put x12 p5)) fun _ =>
  sf_bnd (sf_gR 0 1 p0) fun x14 =>
  sf_bnd (sf_gI 8 1 x14) fun x15 =>
  sf_ret x15
  ) else (
  sf_ret (-1 : Int32)
  )
set_option maxRecDepth 20000 in
set_option maxHeartbeats 4000000 in
theorem ok_SF_feed (p0 : Option Nat) (p1 : Int32) (p2 : Int32) (p3 : Int32) (p4 : Int32) (p5 : Int32) : sf_Ok ({ cls := "SplitFares", name := "feed", desc := "(IIIII)I" } : Jvm.MethodName) prog_1_method_8_code 6 (some .int) 1 [sf_rv p0, .int p1, .int p2, .int p3, .int p4, .int p5] (jx_SF_feed p0 p1 p2 p3 p4 p5) (fun r => some (.int r)) := by
  refine sf_Ok.of (env := [some (sf_rv p0), some (.int p1), some (.int p2), some (.int p3), some (.int p4), some (.int p5)]) (plainFor_of_name (by decide)) [false, false, false, false, false, false] (fun G => ⟨pk_r, pk_i, pk_i, pk_i, pk_i, pk_i, trivial⟩) (Nat.le_of_ble_eq_true rfl) rfl (fun X => ?_)
  unfold jx_SF_feed
  refine fp_aload_n (i := 0) (r := p0) dd_SF_feed_0 rfl rfl (fr_pc (pc' := 1) rfl ?_)
  refine fr_gR cl_0 1 (by decide) rfl sw_316 dd_SF_feed_1 (fun x1 => fr_pc (pc' := 4) rfl ?_)
  refine fr_gI cl_8 1 (by decide) rfl sw_229 dd_SF_feed_4 (fun x2 => fr_pc (pc' := 7) rfl ?_)
  refine fp_bipush (v := (20 : Int32)) dd_SF_feed_7 (by decide) (fr_pc (pc' := 9) rfl ?_)
  refine fp_iadd dd_SF_feed_9 (fr_pc (pc' := 10) rfl ?_)
  refine fp_sipush (v := (400 : Int32)) dd_SF_feed_10 (by decide) (fr_pc (pc' := 13) rfl ?_)
  refine fr_icmp_le (tgt := 18) dd_SF_feed_13 rfl (fun _ => ?_) (fun _ => ?_)
  · refine fp_aload_n (i := 0) (r := p0) dd_SF_feed_18 rfl rfl (fr_pc (pc' := 19) rfl ?_)
    refine fr_gR cl_0 1 (by decide) rfl sw_316 dd_SF_feed_19 (fun x4 => fr_pc (pc' := 22) rfl ?_)
    refine fp_iload_n (i := 1) (x := p1) dd_SF_feed_22 rfl rfl (fr_pc (pc' := 23) rfl ?_)
    refine fr_callV (stk := []) (As := [.int p1]) cl_8 (ok_Tape_put x4 p1) mt_Tape_put rfl rfl sw_498 sw_499 sw_500 (by decide) (Nat.le_of_ble_eq_true rfl) dd_SF_feed_23 (fun u5 => fr_to (pc' := 26) (env' := [some (sf_rv p0), some (.int p1), some (.int p2), some (.int p3), some (.int p4), some (.int p5)]) (stk' := []) rfl rfl rfl ?_)
    refine fp_aload_n (i := 0) (r := p0) dd_SF_feed_26 rfl rfl (fr_pc (pc' := 27) rfl ?_)
    refine fr_gR cl_0 1 (by decide) rfl sw_316 dd_SF_feed_27 (fun x6 => fr_pc (pc' := 30) rfl ?_)
    refine fp_iload_n (i := 2) (x := p2) dd_SF_feed_30 rfl rfl (fr_pc (pc' := 31) rfl ?_)
    refine fr_callV (stk := []) (As := [.int p2]) cl_8 (ok_Tape_put x6 p2) mt_Tape_put rfl rfl sw_498 sw_499 sw_500 (by decide) (Nat.le_of_ble_eq_true rfl) dd_SF_feed_31 (fun u7 => fr_to (pc' := 34) (env' := [some (sf_rv p0), some (.int p1), some (.int p2), some (.int p3), some (.int p4), some (.int p5)]) (stk' := []) rfl rfl rfl ?_)
    refine fp_aload_n (i := 0) (r := p0) dd_SF_feed_34 rfl rfl (fr_pc (pc' := 35) rfl ?_)
    refine fr_gR cl_0 1 (by decide) rfl sw_316 dd_SF_feed_35 (fun x8 => fr_pc (pc' := 38) rfl ?_)
    refine fp_iload_n (i := 3) (x := p3) dd_SF_feed_38 rfl rfl (fr_pc (pc' := 39) rfl ?_)
    refine fr_callV (stk := []) (As := [.int p3]) cl_8 (ok_Tape_put x8 p3) mt_Tape_put rfl rfl sw_498 sw_499 sw_500 (by decide) (Nat.le_of_ble_eq_true rfl) dd_SF_feed_39 (fun u9 => fr_to (pc' := 42) (env' := [some (sf_rv p0), some (.int p1), some (.int p2), some (.int p3), some (.int p4), some (.int p5)]) (stk' := []) rfl rfl rfl ?_)
    refine fp_aload_n (i := 0) (r := p0) dd_SF_feed_42 rfl rfl (fr_pc (pc' := 43) rfl ?_)
    refine fr_gR cl_0 1 (by decide) rfl sw_316 dd_SF_feed_43 (fun x10 => fr_pc (pc' := 46) rfl ?_)
    refine fp_iload (i := 4) (x := p4) dd_SF_feed_46 rfl (fr_pc (pc' := 48) rfl ?_)
    refine fr_callV (stk := []) (As := [.int p4]) cl_8 (ok_Tape_put x10 p4) mt_Tape_put rfl rfl sw_498 sw_499 sw_500 (by decide) (Nat.le_of_ble_eq_true rfl) dd_SF_feed_48 (fun u11 => fr_to (pc' := 51) (env' := [some (sf_rv p0), some (.int p1), some (.int p2), some (.int p3), some (.int p4), some (.int p5)]) (stk' := []) rfl rfl rfl ?_)
    refine fp_aload_n (i := 0) (r := p0) dd_SF_feed_51 rfl rfl (fr_pc (pc' := 52) rfl ?_)
    refine fr_gR cl_0 1 (by decide) rfl sw_316 dd_SF_feed_52 (fun x12 => fr_pc (pc' := 55) rfl ?_)
    refine fp_iload (i := 5) (x := p5) dd_SF_feed_55 rfl (fr_pc (pc' := 57) rfl ?_)
    refine fr_callV (stk := []) (As := [.int p5]) cl_8 (ok_Tape_put x12 p5) mt_Tape_put rfl rfl sw_498 sw_499 sw_500 (by decide) (Nat.le_of_ble_eq_true rfl) dd_SF_feed_57 (fun u13 => fr_to (pc' := 60) (env' := [some (sf_rv p0), some (.int p1), some (.int p2), some (.int p3), some (.int p4), some (.int p5)]) (stk' := []) rfl rfl rfl ?_)
    refine fp_aload_n (i := 0) (r := p0) dd_SF_feed_60 rfl rfl (fr_pc (pc' := 61) rfl ?_)
    refine fr_gR cl_0 1 (by decide) rfl sw_316 dd_SF_feed_61 (fun x14 => fr_pc (pc' := 64) rfl ?_)
    refine fr_gI cl_8 1 (by decide) rfl sw_229 dd_SF_feed_64 (fun x15 => fr_pc (pc' := 67) rfl ?_)
    exact fr_iret (v := x15) rfl rfl dd_SF_feed_67
  · refine fr_pc (pc' := 16) rfl ?_
    refine fp_iconst (v := (-1 : Int32)) dd_SF_feed_16 (by decide) (fr_pc (pc' := 17) rfl ?_)
    exact fr_iret (v := (-1 : Int32)) rfl rfl dd_SF_feed_17
theorem mt_SF_end : sf_Mt ({ cls := "SplitFares", name := "end", desc := "(I)I" } : Jvm.MethodName) prog_1_method_9_code 2 (some .int) 1 := ⟨sw_505, sw_1, ⟨by decide, by decide, by decide +kernel⟩, by decide⟩
theorem dd_SF_end_0 : decode prog_1_method_9_code 0 = .ok (.iload_n 1, 1) := by decide +kernel
theorem dd_SF_end_1 : decode prog_1_method_9_code 1 = .ok (.ifCond .lt 14, 3) := by decide +kernel
theorem dd_SF_end_4 : decode prog_1_method_9_code 4 = .ok (.iload_n 1, 1) := by decide +kernel
theorem dd_SF_end_5 : decode prog_1_method_9_code 5 = .ok (.aload_n 0, 1) := by decide +kernel
theorem dd_SF_end_6 : decode prog_1_method_9_code 6 = .ok (.getfield 19, 3) := by decide +kernel
theorem dd_SF_end_9 : decode prog_1_method_9_code 9 = .ok (.getfield 141, 3) := by decide +kernel
theorem dd_SF_end_12 : decode prog_1_method_9_code 12 = .ok (.if_icmp .le 5, 3) := by decide +kernel
theorem dd_SF_end_17 : decode prog_1_method_9_code 17 = .ok (.aload_n 0, 1) := by decide +kernel
theorem dd_SF_end_18 : decode prog_1_method_9_code 18 = .ok (.getfield 19, 3) := by decide +kernel
theorem dd_SF_end_21 : decode prog_1_method_9_code 21 = .ok (.iload_n 1, 1) := by decide +kernel
theorem dd_SF_end_22 : decode prog_1_method_9_code 22 = .ok (.putfield 141, 3) := by decide +kernel
theorem dd_SF_end_25 : decode prog_1_method_9_code 25 = .ok (.iload_n 1, 1) := by decide +kernel
theorem dd_SF_end_26 : decode prog_1_method_9_code 26 = .ok (.ireturn, 1) := by decide +kernel
theorem dd_SF_end_15 : decode prog_1_method_9_code 15 = .ok (.iconst (-1), 1) := by decide +kernel
theorem dd_SF_end_16 : decode prog_1_method_9_code 16 = .ok (.ireturn, 1) := by decide +kernel
def jx_SF_end (p0 : Option Nat) (p1 : Int32) : sf_M (Int32) :=
  if p1 < 0 then (
  sf_ret (-1 : Int32)
  ) else (
  sf_bnd (sf_gR 0 1 p0) fun x2 =>
  sf_bnd (sf_gI 8 1 x2) fun x3 =>
  if p1 ≤ x3 then (
  sf_bnd (sf_gR 0 1 p0) fun x5 =>
  sf_bnd (sf_pI 8 1 x5 p1) fun _ =>
  sf_ret p1
  ) else (
  sf_ret (-1 : Int32)
  )
  )
set_option maxRecDepth 20000 in
set_option maxHeartbeats 4000000 in
theorem ok_SF_end (p0 : Option Nat) (p1 : Int32) : sf_Ok ({ cls := "SplitFares", name := "end", desc := "(I)I" } : Jvm.MethodName) prog_1_method_9_code 2 (some .int) 0 [sf_rv p0, .int p1] (jx_SF_end p0 p1) (fun r => some (.int r)) := by
  refine sf_Ok.of (env := [some (sf_rv p0), some (.int p1)]) (plainFor_of_name (by decide)) [false, false] (fun G => ⟨pk_r, pk_i, trivial⟩) (Nat.le_of_ble_eq_true rfl) rfl (fun X => ?_)
  unfold jx_SF_end
  refine fp_iload_n (i := 1) (x := p1) dd_SF_end_0 rfl rfl (fr_pc (pc' := 1) rfl ?_)
  refine fr_if_lt (tgt := 15) dd_SF_end_1 rfl (fun _ => ?_) (fun _ => ?_)
  · refine fp_iconst (v := (-1 : Int32)) dd_SF_end_15 (by decide) (fr_pc (pc' := 16) rfl ?_)
    exact fr_iret (v := (-1 : Int32)) rfl rfl dd_SF_end_16
  · refine fr_pc (pc' := 4) rfl ?_
    refine fp_iload_n (i := 1) (x := p1) dd_SF_end_4 rfl rfl (fr_pc (pc' := 5) rfl ?_)
    refine fp_aload_n (i := 0) (r := p0) dd_SF_end_5 rfl rfl (fr_pc (pc' := 6) rfl ?_)
    refine fr_gR cl_0 1 (by decide) rfl sw_316 dd_SF_end_6 (fun x2 => fr_pc (pc' := 9) rfl ?_)
    refine fr_gI cl_8 1 (by decide) rfl sw_229 dd_SF_end_9 (fun x3 => fr_pc (pc' := 12) rfl ?_)
    refine fr_icmp_le (tgt := 17) dd_SF_end_12 rfl (fun _ => ?_) (fun _ => ?_)
    · refine fp_aload_n (i := 0) (r := p0) dd_SF_end_17 rfl rfl (fr_pc (pc' := 18) rfl ?_)
      refine fr_gR cl_0 1 (by decide) rfl sw_316 dd_SF_end_18 (fun x5 => fr_pc (pc' := 21) rfl ?_)
      refine fp_iload_n (i := 1) (x := p1) dd_SF_end_21 rfl rfl (fr_pc (pc' := 22) rfl ?_)
      refine fr_pI cl_8 1 (by decide) rfl sw_229 rfl ⟨rfl, rfl⟩ dd_SF_end_22 (fr_pc (pc' := 25) rfl ?_)
      refine fp_iload_n (i := 1) (x := p1) dd_SF_end_25 rfl rfl (fr_pc (pc' := 26) rfl ?_)
      exact fr_iret (v := p1) rfl rfl dd_SF_end_26
    · refine fr_pc (pc' := 15) rfl ?_
      refine fp_iconst (v := (-1 : Int32)) dd_SF_end_15 (by decide) (fr_pc (pc' := 16) rfl ?_)
      exact fr_iret (v := (-1 : Int32)) rfl rfl dd_SF_end_16
theorem mt_SF_row : sf_Mt ({ cls := "SplitFares", name := "row", desc := "()I" } : Jvm.MethodName) prog_1_method_10_code 5 (some .int) 0 := ⟨sw_509, sw_1, ⟨by decide, by decide, by decide +kernel⟩, by decide⟩
theorem dd_SF_row_0 : decode prog_1_method_10_code 0 = .ok (.aload_n 0, 1) := by decide +kernel
theorem dd_SF_row_1 : decode prog_1_method_10_code 1 = .ok (.getfield 19, 3) := by decide +kernel
theorem dd_SF_row_4 : decode prog_1_method_10_code 4 = .ok (.getfield 141, 3) := by decide +kernel
theorem dd_SF_row_7 : decode prog_1_method_10_code 7 = .ok (.ifCond .ne 10, 3) := by decide +kernel
theorem dd_SF_row_10 : decode prog_1_method_10_code 10 = .ok (.aload_n 0, 1) := by decide +kernel
theorem dd_SF_row_11 : decode prog_1_method_10_code 11 = .ok (.bipush (-6), 2) := by decide +kernel
theorem dd_SF_row_13 : decode prog_1_method_10_code 13 = .ok (.invokevirtual 119, 3) := by decide +kernel
theorem dd_SF_row_16 : decode prog_1_method_10_code 16 = .ok (.ireturn, 1) := by decide +kernel
theorem dd_SF_row_17 : decode prog_1_method_10_code 17 = .ok (.iconst 0, 1) := by decide +kernel
theorem dd_SF_row_18 : decode prog_1_method_10_code 18 = .ok (.istore_n 1, 1) := by decide +kernel
theorem dd_SF_row_19 : decode prog_1_method_10_code 19 = .ok (.iconst 0, 1) := by decide +kernel
theorem dd_SF_row_20 : decode prog_1_method_10_code 20 = .ok (.istore_n 2, 1) := by decide +kernel
theorem dd_SF_row_21 : decode prog_1_method_10_code 21 = .ok (.iconst 0, 1) := by decide +kernel
theorem dd_SF_row_22 : decode prog_1_method_10_code 22 = .ok (.istore_n 3, 1) := by decide +kernel
theorem dd_SF_row_23 : decode prog_1_method_10_code 23 = .ok (.iload_n 3, 1) := by decide +kernel
theorem dd_SF_row_24 : decode prog_1_method_10_code 24 = .ok (.aload_n 0, 1) := by decide +kernel
theorem dd_SF_row_25 : decode prog_1_method_10_code 25 = .ok (.getfield 19, 3) := by decide +kernel
theorem dd_SF_row_28 : decode prog_1_method_10_code 28 = .ok (.getfield 141, 3) := by decide +kernel
theorem dd_SF_row_31 : decode prog_1_method_10_code 31 = .ok (.if_icmp .ge 84, 3) := by decide +kernel
theorem dd_SF_row_34 : decode prog_1_method_10_code 34 = .ok (.iload_n 3, 1) := by decide +kernel
theorem dd_SF_row_35 : decode prog_1_method_10_code 35 = .ok (.iconst 3, 1) := by decide +kernel
theorem dd_SF_row_36 : decode prog_1_method_10_code 36 = .ok (.iadd, 1) := by decide +kernel
theorem dd_SF_row_37 : decode prog_1_method_10_code 37 = .ok (.aload_n 0, 1) := by decide +kernel
theorem dd_SF_row_38 : decode prog_1_method_10_code 38 = .ok (.getfield 19, 3) := by decide +kernel
theorem dd_SF_row_41 : decode prog_1_method_10_code 41 = .ok (.getfield 141, 3) := by decide +kernel
theorem dd_SF_row_44 : decode prog_1_method_10_code 44 = .ok (.if_icmp .gt 7, 3) := by decide +kernel
theorem dd_SF_row_47 : decode prog_1_method_10_code 47 = .ok (.iconst 1, 1) := by decide +kernel
theorem dd_SF_row_48 : decode prog_1_method_10_code 48 = .ok (.goto 4, 3) := by decide +kernel
theorem dd_SF_row_51 : decode prog_1_method_10_code 51 = .ok (.iconst 0, 1) := by decide +kernel
theorem dd_SF_row_52 : decode prog_1_method_10_code 52 = .ok (.istore 4, 2) := by decide +kernel
theorem dd_SF_row_54 : decode prog_1_method_10_code 54 = .ok (.iload 4, 2) := by decide +kernel
theorem dd_SF_row_56 : decode prog_1_method_10_code 56 = .ok (.ifCond .eq 50, 3) := by decide +kernel
theorem dd_SF_row_59 : decode prog_1_method_10_code 59 = .ok (.aload_n 0, 1) := by decide +kernel
theorem dd_SF_row_60 : decode prog_1_method_10_code 60 = .ok (.getfield 12, 3) := by decide +kernel
theorem dd_SF_row_63 : decode prog_1_method_10_code 63 = .ok (.getfield 67, 3) := by decide +kernel
theorem dd_SF_row_66 : decode prog_1_method_10_code 66 = .ok (.aload_n 0, 1) := by decide +kernel
theorem dd_SF_row_67 : decode prog_1_method_10_code 67 = .ok (.getfield 19, 3) := by decide +kernel
theorem dd_SF_row_70 : decode prog_1_method_10_code 70 = .ok (.iload_n 3, 1) := by decide +kernel
theorem dd_SF_row_71 : decode prog_1_method_10_code 71 = .ok (.invokevirtual 148, 3) := by decide +kernel
theorem dd_SF_row_74 : decode prog_1_method_10_code 74 = .ok (.aload_n 0, 1) := by decide +kernel
theorem dd_SF_row_75 : decode prog_1_method_10_code 75 = .ok (.getfield 19, 3) := by decide +kernel
theorem dd_SF_row_78 : decode prog_1_method_10_code 78 = .ok (.iload_n 3, 1) := by decide +kernel
theorem dd_SF_row_79 : decode prog_1_method_10_code 79 = .ok (.iconst 1, 1) := by decide +kernel
theorem dd_SF_row_80 : decode prog_1_method_10_code 80 = .ok (.iadd, 1) := by decide +kernel
theorem dd_SF_row_81 : decode prog_1_method_10_code 81 = .ok (.invokevirtual 148, 3) := by decide +kernel
theorem dd_SF_row_84 : decode prog_1_method_10_code 84 = .ok (.aload_n 0, 1) := by decide +kernel
theorem dd_SF_row_85 : decode prog_1_method_10_code 85 = .ok (.getfield 19, 3) := by decide +kernel
theorem dd_SF_row_88 : decode prog_1_method_10_code 88 = .ok (.iload_n 3, 1) := by decide +kernel
theorem dd_SF_row_89 : decode prog_1_method_10_code 89 = .ok (.iconst 2, 1) := by decide +kernel
theorem dd_SF_row_90 : decode prog_1_method_10_code 90 = .ok (.iadd, 1) := by decide +kernel
theorem dd_SF_row_91 : decode prog_1_method_10_code 91 = .ok (.invokevirtual 148, 3) := by decide +kernel
theorem dd_SF_row_94 : decode prog_1_method_10_code 94 = .ok (.invokevirtual 71, 3) := by decide +kernel
theorem dd_SF_row_97 : decode prog_1_method_10_code 97 = .ok (.ifCond .lt 9, 3) := by decide +kernel
theorem dd_SF_row_100 : decode prog_1_method_10_code 100 = .ok (.iinc 1 1, 3) := by decide +kernel
theorem dd_SF_row_103 : decode prog_1_method_10_code 103 = .ok (.goto 6, 3) := by decide +kernel
theorem dd_SF_row_106 : decode prog_1_method_10_code 106 = .ok (.iinc 2 1, 3) := by decide +kernel
theorem dd_SF_row_109 : decode prog_1_method_10_code 109 = .ok (.iinc 3 3, 3) := by decide +kernel
theorem dd_SF_row_112 : decode prog_1_method_10_code 112 = .ok (.goto (-89), 3) := by decide +kernel
theorem dd_SF_row_115 : decode prog_1_method_10_code 115 = .ok (.aload_n 0, 1) := by decide +kernel
theorem dd_SF_row_116 : decode prog_1_method_10_code 116 = .ok (.getfield 19, 3) := by decide +kernel
theorem dd_SF_row_119 : decode prog_1_method_10_code 119 = .ok (.iconst 0, 1) := by decide +kernel
theorem dd_SF_row_120 : decode prog_1_method_10_code 120 = .ok (.putfield 141, 3) := by decide +kernel
theorem dd_SF_row_123 : decode prog_1_method_10_code 123 = .ok (.aload_n 0, 1) := by decide +kernel
theorem dd_SF_row_124 : decode prog_1_method_10_code 124 = .ok (.iload_n 2, 1) := by decide +kernel
theorem dd_SF_row_125 : decode prog_1_method_10_code 125 = .ok (.putfield 61, 3) := by decide +kernel
theorem dd_SF_row_128 : decode prog_1_method_10_code 128 = .ok (.aload_n 0, 1) := by decide +kernel
theorem dd_SF_row_129 : decode prog_1_method_10_code 129 = .ok (.iload_n 1, 1) := by decide +kernel
theorem dd_SF_row_130 : decode prog_1_method_10_code 130 = .ok (.invokevirtual 138, 3) := by decide +kernel
theorem dd_SF_row_133 : decode prog_1_method_10_code 133 = .ok (.ireturn, 1) := by decide +kernel
def jx_SF_row (p0 : Option Nat) : sf_M (Int32) :=
  sf_bnd (sf_gR 0 1 p0) fun x1 =>
  sf_bnd (sf_gI 8 1 x1) fun x2 =>
  if x2 = 0 then (
  sf_bnd (sf_rc 0 p0 (jx_SF_refused p0 (-6 : Int32))) fun x4 =>
  sf_ret x4
  ) else (
  sf_bnd (sf_loop (β := (Int32 × Int32 × Int32)) (γ := (Int32 × Int32)) (fun b5 =>
  sf_bnd (sf_gR 0 1 p0) fun x6 =>
  sf_bnd (sf_gI 8 1 x6) fun x7 =>
  if x7 ≤ b5.2.2 then (
  sf_ret (.inr (b5.1, b5.2.1))
  ) else (
  sf_bnd (sf_gR 0 1 p0) fun x9 =>
  sf_bnd (sf_gI 8 1 x9) fun x10 =>
  sf_bnd (α := (Int32)) (
  if x10 < (b5.2.2 + (3 : Int32)) then (
  sf_ret (0 : Int32)
  ) else (
  sf_ret (1 : Int32)
  )
  ) (fun v12 =>
  if v12 = 0 then (
  sf_bnd (sf_ret (b5.2.1 + (1 : Int32))) fun y14 =>
  sf_bnd (sf_ret (b5.2.2 + (3 : Int32))) fun y15 =>
  sf_ret (.inl (b5.1, y14, y15))
  ) else (
  sf_bnd (sf_gR 0 0 p0) fun x16 =>
  sf_bnd (sf_gR 1 0 x16) fun x17 =>
  sf_bnd (sf_gR 0 1 p0) fun x18 =>
  sf_bnd (sf_rc 8 x18 (jx_Tape_at x18 b5.2.2)) fun x19 =>
  sf_bnd (sf_gR 0 1 p0) fun x20 =>
  sf_bnd (sf_rc 8 x20 (jx_Tape_at x20 (b5.2.2 + (1 : Int32)))) fun x21 =>
  sf_bnd (sf_gR 0 1 p0) fun x22 =>
  sf_bnd (sf_rc 8 x22 (jx_Tape_at x22 (b5.2.2 + (2 : Int32)))) fun x23 =>
  sf_bnd (sf_rc 4 x17 (jx_Office_addTrain x17 x19 x21 x23)) fun x24 =>
  if x24 < 0 then (
  sf_bnd (sf_ret (b5.2.1 + (1 : Int32))) fun y26 =>
  sf_bnd (sf_ret (b5.2.2 + (3 : Int32))) fun y27 =>
  sf_ret (.inl (b5.1, y26, y27))
  ) else (
  sf_bnd (sf_ret (b5.1 + (1 : Int32))) fun y28 =>
  sf_bnd (sf_ret (b5.2.2 + (3 : Int32))) fun y29 =>
  sf_ret (.inl (y28, b5.2.1, y29))
  )
  )
  )
  )
  ) sf_fuel ((0 : Int32), (0 : Int32), (0 : Int32))) (fun e30 =>
  sf_bnd (sf_gR 0 1 p0) fun x31 =>
  sf_bnd (sf_pI 8 1 x31 (0 : Int32)) fun _ =>
  sf_bnd (sf_pI 0 11 p0 e30.2) fun _ =>
  sf_bnd (sf_rc 0 p0 (jx_SF_accepted p0 e30.1)) fun x32 =>
  sf_ret x32
  )
  )
set_option maxRecDepth 20000 in
set_option maxHeartbeats 4000000 in
theorem ok_SF_row (p0 : Option Nat) : sf_Ok ({ cls := "SplitFares", name := "row", desc := "()I" } : Jvm.MethodName) prog_1_method_10_code 5 (some .int) 2 [sf_rv p0] (jx_SF_row p0) (fun r => some (.int r)) := by
  refine sf_Ok.of (env := [some (sf_rv p0), none, none, none, none]) (plainFor_of_name (by decide)) [false] (fun G => ⟨pk_r, trivial⟩) (Nat.le_of_ble_eq_true rfl) rfl (fun X => ?_)
  unfold jx_SF_row
  refine fp_aload_n (i := 0) (r := p0) dd_SF_row_0 rfl rfl (fr_pc (pc' := 1) rfl ?_)
  refine fr_gR cl_0 1 (by decide) rfl sw_316 dd_SF_row_1 (fun x1 => fr_pc (pc' := 4) rfl ?_)
  refine fr_gI cl_8 1 (by decide) rfl sw_229 dd_SF_row_4 (fun x2 => fr_pc (pc' := 7) rfl ?_)
  refine fr_if_ne (tgt := 17) dd_SF_row_7 rfl (fun _ => ?_) (fun _ => ?_)
  · refine fr_pc (pc' := 10) rfl ?_
    refine fp_aload_n (i := 0) (r := p0) dd_SF_row_10 rfl rfl (fr_pc (pc' := 11) rfl ?_)
    refine fp_bipush (v := (-6 : Int32)) dd_SF_row_11 (by decide) (fr_pc (pc' := 13) rfl ?_)
    refine fr_callV (stk := []) (As := [.int (-6 : Int32)]) cl_0 (ok_SF_refused p0 (-6 : Int32)) mt_SF_refused rfl rfl sw_374 sw_376 sp_1 (by decide) (Nat.le_of_ble_eq_true rfl) dd_SF_row_13 (fun x4 => fr_to (pc' := 16) (env' := [some (sf_rv p0), none, none, none, none]) (stk' := [.int x4]) rfl rfl rfl ?_)
    exact fr_iret (v := x4) rfl rfl dd_SF_row_16
  · refine fp_iconst (v := (0 : Int32)) dd_SF_row_17 (by decide) (fr_pc (pc' := 18) rfl ?_)
    refine fp_istore_n (i := 1) dd_SF_row_18 rfl (Nat.le_of_ble_eq_true rfl) (fun _ => c1_r rfl) (fr_to (pc' := 19) (env' := [some (sf_rv p0), some (.int (0 : Int32)), none, none, none]) (stk' := []) rfl rfl rfl ?_)
    refine fp_iconst (v := (0 : Int32)) dd_SF_row_19 (by decide) (fr_pc (pc' := 20) rfl ?_)
    refine fp_istore_n (i := 2) dd_SF_row_20 rfl (Nat.le_of_ble_eq_true rfl) (fun _ => c1_i rfl) (fr_to (pc' := 21) (env' := [some (sf_rv p0), some (.int (0 : Int32)), some (.int (0 : Int32)), none, none]) (stk' := []) rfl rfl rfl ?_)
    refine fp_iconst (v := (0 : Int32)) dd_SF_row_21 (by decide) (fr_pc (pc' := 22) rfl ?_)
    refine fp_istore_n (i := 3) dd_SF_row_22 rfl (Nat.le_of_ble_eq_true rfl) (fun _ => c1_i rfl) (fr_to (pc' := 23) (env' := [some (sf_rv p0), some (.int (0 : Int32)), some (.int (0 : Int32)), some (.int (0 : Int32)), none]) (stk' := []) rfl rfl rfl ?_)
    refine fr_to (pc' := 23) (env' := [some (sf_rv p0), some (.int (0 : Int32)), some (.int (0 : Int32)), some (.int (0 : Int32)), none]) (stk' := []) rfl rfl rfl ?_
    refine fr_bnd (l1 := (fun (e30 : (Int32 × Int32)) => sf_p 115 [some (sf_rv p0), some (.int e30.1), some (.int e30.2), none, none] [])) (fr_loop (Lb := (fun (b5 : (Int32 × Int32 × Int32)) => sf_p 23 [some (sf_rv p0), some (.int b5.1), some (.int b5.2.1), some (.int b5.2.2), none] [])) (fun b5 => ?_) _ _) (fun e30 => ?_)
    · refine fp_iload_n (i := 3) (x := b5.2.2) dd_SF_row_23 rfl rfl (fr_pc (pc' := 24) rfl ?_)
      refine fp_aload_n (i := 0) (r := p0) dd_SF_row_24 rfl rfl (fr_pc (pc' := 25) rfl ?_)
      refine fr_gR cl_0 1 (by decide) rfl sw_316 dd_SF_row_25 (fun x6 => fr_pc (pc' := 28) rfl ?_)
      refine fr_gI cl_8 1 (by decide) rfl sw_229 dd_SF_row_28 (fun x7 => fr_pc (pc' := 31) rfl ?_)
      refine fr_icmp_ge (tgt := 115) dd_SF_row_31 rfl (fun _ => ?_) (fun _ => ?_)
      · refine fr_wk [true, true, true, false, false] ?_
        exact fr_ret rfl
      · refine fr_pc (pc' := 34) rfl ?_
        refine fp_iload_n (i := 3) (x := b5.2.2) dd_SF_row_34 rfl rfl (fr_pc (pc' := 35) rfl ?_)
        refine fp_iconst (v := (3 : Int32)) dd_SF_row_35 (by decide) (fr_pc (pc' := 36) rfl ?_)
        refine fp_iadd dd_SF_row_36 (fr_pc (pc' := 37) rfl ?_)
        refine fp_aload_n (i := 0) (r := p0) dd_SF_row_37 rfl rfl (fr_pc (pc' := 38) rfl ?_)
        refine fr_gR cl_0 1 (by decide) rfl sw_316 dd_SF_row_38 (fun x9 => fr_pc (pc' := 41) rfl ?_)
        refine fr_gI cl_8 1 (by decide) rfl sw_229 dd_SF_row_41 (fun x10 => fr_pc (pc' := 44) rfl ?_)
        refine fr_bnd (l1 := (fun (v12 : (Int32)) => sf_p 52 [some (sf_rv p0), some (.int b5.1), some (.int b5.2.1), some (.int b5.2.2), none] [.int v12])) ?_ (fun v12 => ?_)
        · refine fr_icmp_gt (tgt := 51) dd_SF_row_44 rfl (fun _ => ?_) (fun _ => ?_)
          · refine fp_iconst (v := (0 : Int32)) dd_SF_row_51 (by decide) (fr_pc (pc' := 52) rfl ?_)
            exact fr_ret rfl
          · refine fr_pc (pc' := 47) rfl ?_
            refine fp_iconst (v := (1 : Int32)) dd_SF_row_47 (by decide) (fr_pc (pc' := 48) rfl ?_)
            refine fp_goto (tgt := 52) dd_SF_row_48 rfl ?_
            exact fr_ret rfl
        · refine fp_istore (i := 4) dd_SF_row_52 (Nat.le_of_ble_eq_true rfl) (fun _ => c1_i rfl) (fr_to (pc' := 54) (env' := [some (sf_rv p0), some (.int b5.1), some (.int b5.2.1), some (.int b5.2.2), some (.int v12)]) (stk' := []) rfl rfl rfl ?_)
          refine fp_iload (i := 4) (x := v12) dd_SF_row_54 rfl (fr_pc (pc' := 56) rfl ?_)
          refine fr_if_eq (tgt := 106) dd_SF_row_56 rfl (fun _ => ?_) (fun _ => ?_)
          · refine fr_niinc (i := 2) (x := b5.2.1) (w := (1 : Int32)) dd_SF_row_106 rfl (by decide) (Nat.le_of_ble_eq_true rfl) (fun _ => c1_i rfl) (fun y14 => fr_to (pc' := 109) (env' := [some (sf_rv p0), some (.int b5.1), some (.int y14), some (.int b5.2.2), some (.int v12)]) (stk' := []) rfl rfl rfl ?_)
            refine fr_niinc (i := 3) (x := b5.2.2) (w := (3 : Int32)) dd_SF_row_109 rfl (by decide) (Nat.le_of_ble_eq_true rfl) (fun _ => c1_i rfl) (fun y15 => fr_to (pc' := 112) (env' := [some (sf_rv p0), some (.int b5.1), some (.int y14), some (.int y15), some (.int v12)]) (stk' := []) rfl rfl rfl ?_)
            refine fp_goto (tgt := 23) dd_SF_row_112 rfl ?_
            refine fr_wk [true, true, true, true, false] ?_
            exact fr_ret rfl
          · refine fr_pc (pc' := 59) rfl ?_
            refine fp_aload_n (i := 0) (r := p0) dd_SF_row_59 rfl rfl (fr_pc (pc' := 60) rfl ?_)
            refine fr_gR cl_0 0 (by decide) rfl sw_315 dd_SF_row_60 (fun x16 => fr_pc (pc' := 63) rfl ?_)
            refine fr_gR cl_1 0 (by decide) rfl sw_192 dd_SF_row_63 (fun x17 => fr_pc (pc' := 66) rfl ?_)
            refine fp_aload_n (i := 0) (r := p0) dd_SF_row_66 rfl rfl (fr_pc (pc' := 67) rfl ?_)
            refine fr_gR cl_0 1 (by decide) rfl sw_316 dd_SF_row_67 (fun x18 => fr_pc (pc' := 70) rfl ?_)
            refine fp_iload_n (i := 3) (x := b5.2.2) dd_SF_row_70 rfl rfl (fr_pc (pc' := 71) rfl ?_)
            refine fr_callV (stk := [sf_rv x17]) (As := [.int b5.2.2]) cl_8 (ok_Tape_at x18 b5.2.2) mt_Tape_at rfl rfl sw_510 sw_511 sw_512 (by decide) (Nat.le_of_ble_eq_true rfl) dd_SF_row_71 (fun x19 => fr_to (pc' := 74) (env' := [some (sf_rv p0), some (.int b5.1), some (.int b5.2.1), some (.int b5.2.2), some (.int v12)]) (stk' := [.int x19, sf_rv x17]) rfl rfl rfl ?_)
            refine fp_aload_n (i := 0) (r := p0) dd_SF_row_74 rfl rfl (fr_pc (pc' := 75) rfl ?_)
            refine fr_gR cl_0 1 (by decide) rfl sw_316 dd_SF_row_75 (fun x20 => fr_pc (pc' := 78) rfl ?_)
            refine fp_iload_n (i := 3) (x := b5.2.2) dd_SF_row_78 rfl rfl (fr_pc (pc' := 79) rfl ?_)
            refine fp_iconst (v := (1 : Int32)) dd_SF_row_79 (by decide) (fr_pc (pc' := 80) rfl ?_)
            refine fp_iadd dd_SF_row_80 (fr_pc (pc' := 81) rfl ?_)
            refine fr_callV (stk := [.int x19, sf_rv x17]) (As := [.int (b5.2.2 + (1 : Int32))]) cl_8 (ok_Tape_at x20 (b5.2.2 + (1 : Int32))) mt_Tape_at rfl rfl sw_510 sw_511 sw_512 (by decide) (Nat.le_of_ble_eq_true rfl) dd_SF_row_81 (fun x21 => fr_to (pc' := 84) (env' := [some (sf_rv p0), some (.int b5.1), some (.int b5.2.1), some (.int b5.2.2), some (.int v12)]) (stk' := [.int x21, .int x19, sf_rv x17]) rfl rfl rfl ?_)
            refine fp_aload_n (i := 0) (r := p0) dd_SF_row_84 rfl rfl (fr_pc (pc' := 85) rfl ?_)
            refine fr_gR cl_0 1 (by decide) rfl sw_316 dd_SF_row_85 (fun x22 => fr_pc (pc' := 88) rfl ?_)
            refine fp_iload_n (i := 3) (x := b5.2.2) dd_SF_row_88 rfl rfl (fr_pc (pc' := 89) rfl ?_)
            refine fp_iconst (v := (2 : Int32)) dd_SF_row_89 (by decide) (fr_pc (pc' := 90) rfl ?_)
            refine fp_iadd dd_SF_row_90 (fr_pc (pc' := 91) rfl ?_)
            refine fr_callV (stk := [.int x21, .int x19, sf_rv x17]) (As := [.int (b5.2.2 + (2 : Int32))]) cl_8 (ok_Tape_at x22 (b5.2.2 + (2 : Int32))) mt_Tape_at rfl rfl sw_510 sw_511 sw_512 (by decide) (Nat.le_of_ble_eq_true rfl) dd_SF_row_91 (fun x23 => fr_to (pc' := 94) (env' := [some (sf_rv p0), some (.int b5.1), some (.int b5.2.1), some (.int b5.2.2), some (.int v12)]) (stk' := [.int x23, .int x21, .int x19, sf_rv x17]) rfl rfl rfl ?_)
            refine fr_callV (stk := []) (As := [.int x19, .int x21, .int x23]) cl_4 (ok_Office_addTrain x17 x19 x21 x23) mt_Office_addTrain rfl rfl sw_360 sw_361 sw_362 (by decide) (Nat.le_of_ble_eq_true rfl) dd_SF_row_94 (fun x24 => fr_to (pc' := 97) (env' := [some (sf_rv p0), some (.int b5.1), some (.int b5.2.1), some (.int b5.2.2), some (.int v12)]) (stk' := [.int x24]) rfl rfl rfl ?_)
            refine fr_if_lt (tgt := 106) dd_SF_row_97 rfl (fun _ => ?_) (fun _ => ?_)
            · refine fr_niinc (i := 2) (x := b5.2.1) (w := (1 : Int32)) dd_SF_row_106 rfl (by decide) (Nat.le_of_ble_eq_true rfl) (fun _ => c1_i rfl) (fun y26 => fr_to (pc' := 109) (env' := [some (sf_rv p0), some (.int b5.1), some (.int y26), some (.int b5.2.2), some (.int v12)]) (stk' := []) rfl rfl rfl ?_)
              refine fr_niinc (i := 3) (x := b5.2.2) (w := (3 : Int32)) dd_SF_row_109 rfl (by decide) (Nat.le_of_ble_eq_true rfl) (fun _ => c1_i rfl) (fun y27 => fr_to (pc' := 112) (env' := [some (sf_rv p0), some (.int b5.1), some (.int y26), some (.int y27), some (.int v12)]) (stk' := []) rfl rfl rfl ?_)
              refine fp_goto (tgt := 23) dd_SF_row_112 rfl ?_
              refine fr_wk [true, true, true, true, false] ?_
              exact fr_ret rfl
            · refine fr_pc (pc' := 100) rfl ?_
              refine fr_niinc (i := 1) (x := b5.1) (w := (1 : Int32)) dd_SF_row_100 rfl (by decide) (Nat.le_of_ble_eq_true rfl) (fun _ => c1_r rfl) (fun y28 => fr_to (pc' := 103) (env' := [some (sf_rv p0), some (.int y28), some (.int b5.2.1), some (.int b5.2.2), some (.int v12)]) (stk' := []) rfl rfl rfl ?_)
              refine fp_goto (tgt := 109) dd_SF_row_103 rfl ?_
              refine fr_niinc (i := 3) (x := b5.2.2) (w := (3 : Int32)) dd_SF_row_109 rfl (by decide) (Nat.le_of_ble_eq_true rfl) (fun _ => c1_i rfl) (fun y29 => fr_to (pc' := 112) (env' := [some (sf_rv p0), some (.int y28), some (.int b5.2.1), some (.int y29), some (.int v12)]) (stk' := []) rfl rfl rfl ?_)
              refine fp_goto (tgt := 23) dd_SF_row_112 rfl ?_
              refine fr_wk [true, true, true, true, false] ?_
              exact fr_ret rfl
    · refine fp_aload_n (i := 0) (r := p0) dd_SF_row_115 rfl rfl (fr_pc (pc' := 116) rfl ?_)
      refine fr_gR cl_0 1 (by decide) rfl sw_316 dd_SF_row_116 (fun x31 => fr_pc (pc' := 119) rfl ?_)
      refine fp_iconst (v := (0 : Int32)) dd_SF_row_119 (by decide) (fr_pc (pc' := 120) rfl ?_)
      refine fr_pI cl_8 1 (by decide) rfl sw_229 rfl ⟨rfl, rfl⟩ dd_SF_row_120 (fr_pc (pc' := 123) rfl ?_)
      refine fp_aload_n (i := 0) (r := p0) dd_SF_row_123 rfl rfl (fr_pc (pc' := 124) rfl ?_)
      refine fp_iload_n (i := 2) (x := e30.2) dd_SF_row_124 rfl rfl (fr_pc (pc' := 125) rfl ?_)
      refine fr_pI cl_0 11 (by decide) rfl sw_326 rfl ⟨rfl, rfl⟩ dd_SF_row_125 (fr_pc (pc' := 128) rfl ?_)
      refine fp_aload_n (i := 0) (r := p0) dd_SF_row_128 rfl rfl (fr_pc (pc' := 129) rfl ?_)
      refine fp_iload_n (i := 1) (x := e30.1) dd_SF_row_129 rfl rfl (fr_pc (pc' := 130) rfl ?_)
      refine fr_callV (stk := []) (As := [.int e30.1]) cl_0 (ok_SF_accepted p0 e30.1) mt_SF_accepted rfl rfl sw_378 sw_380 sp_2 (by decide) (Nat.le_of_ble_eq_true rfl) dd_SF_row_130 (fun x32 => fr_to (pc' := 133) (env' := [some (sf_rv p0), some (.int e30.1), some (.int e30.2), none, none]) (stk' := [.int x32]) rfl rfl rfl ?_)
      exact fr_iret (v := x32) rfl rfl dd_SF_row_133
theorem mt_SF_delays : sf_Mt ({ cls := "SplitFares", name := "delays", desc := "()I" } : Jvm.MethodName) prog_1_method_11_code 1 (some .int) 0 := ⟨sw_517, sw_1, ⟨by decide, by decide, by decide +kernel⟩, by decide⟩
theorem dd_SF_delays_0 : decode prog_1_method_11_code 0 = .ok (.aload_n 0, 1) := by decide +kernel
theorem dd_SF_delays_1 : decode prog_1_method_11_code 1 = .ok (.getfield 61, 3) := by decide +kernel
theorem dd_SF_delays_4 : decode prog_1_method_11_code 4 = .ok (.ireturn, 1) := by decide +kernel
def jx_SF_delays (p0 : Option Nat) : sf_M (Int32) :=
  sf_bnd (sf_gI 0 11 p0) fun x1 =>
  sf_ret x1
set_option maxRecDepth 20000 in
set_option maxHeartbeats 4000000 in
theorem ok_SF_delays (p0 : Option Nat) : sf_Ok ({ cls := "SplitFares", name := "delays", desc := "()I" } : Jvm.MethodName) prog_1_method_11_code 1 (some .int) 0 [sf_rv p0] (jx_SF_delays p0) (fun r => some (.int r)) := by
  refine sf_Ok.of (env := [some (sf_rv p0)]) (plainFor_of_name (by decide)) [false] (fun G => ⟨pk_r, trivial⟩) (Nat.le_of_ble_eq_true rfl) rfl (fun X => ?_)
  unfold jx_SF_delays
  refine fp_aload_n (i := 0) (r := p0) dd_SF_delays_0 rfl rfl (fr_pc (pc' := 1) rfl ?_)
  refine fr_gI cl_0 11 (by decide) rfl sw_326 dd_SF_delays_1 (fun x1 => fr_pc (pc' := 4) rfl ?_)
  exact fr_iret (v := x1) rfl rfl dd_SF_delays_4
theorem mt_SF_settleText : sf_Mt ({ cls := "SplitFares", name := "settleText", desc := "(Z)Z" } : Jvm.MethodName) prog_1_method_50_code 2 (some .boolean) 1 := ⟨sw_715, sw_1, ⟨by decide, by decide, by decide +kernel⟩, by decide⟩
theorem dd_SF_settleText_0 : decode prog_1_method_50_code 0 = .ok (.aload_n 0, 1) := by decide +kernel
theorem dd_SF_settleText_1 : decode prog_1_method_50_code 1 = .ok (.iload_n 1, 1) := by decide +kernel
theorem dd_SF_settleText_2 : decode prog_1_method_50_code 2 = .ok (.ifCond .eq 7, 3) := by decide +kernel
theorem dd_SF_settleText_5 : decode prog_1_method_50_code 5 = .ok (.iconst (-1), 1) := by decide +kernel
theorem dd_SF_settleText_6 : decode prog_1_method_50_code 6 = .ok (.goto 10, 3) := by decide +kernel
theorem dd_SF_settleText_9 : decode prog_1_method_50_code 9 = .ok (.aload_n 0, 1) := by decide +kernel
theorem dd_SF_settleText_10 : decode prog_1_method_50_code 10 = .ok (.getfield 26, 3) := by decide +kernel
theorem dd_SF_settleText_13 : decode prog_1_method_50_code 13 = .ok (.invokevirtual 313, 3) := by decide +kernel
theorem dd_SF_settleText_16 : decode prog_1_method_50_code 16 = .ok (.putfield 54, 3) := by decide +kernel
theorem dd_SF_settleText_19 : decode prog_1_method_50_code 19 = .ok (.aload_n 0, 1) := by decide +kernel
theorem dd_SF_settleText_20 : decode prog_1_method_50_code 20 = .ok (.getfield 19, 3) := by decide +kernel
theorem dd_SF_settleText_23 : decode prog_1_method_50_code 23 = .ok (.iconst 0, 1) := by decide +kernel
theorem dd_SF_settleText_24 : decode prog_1_method_50_code 24 = .ok (.putfield 141, 3) := by decide +kernel
theorem dd_SF_settleText_27 : decode prog_1_method_50_code 27 = .ok (.iload_n 1, 1) := by decide +kernel
theorem dd_SF_settleText_28 : decode prog_1_method_50_code 28 = .ok (.ireturn, 1) := by decide +kernel
def jx_SF_settleText (p0 : Option Nat) (p1 : Int32) : sf_M (Int32) :=
  sf_bnd (α := (Int32)) (
  if p1 = 0 then (
  sf_bnd (sf_gR 0 2 p0) fun x2 =>
  sf_bnd (sf_rc 7 x2 (jx_Reader_place x2)) fun x3 =>
  sf_ret x3
  ) else (
  sf_ret (-1 : Int32)
  )
  ) (fun v4 =>
  sf_bnd (sf_pI 0 9 p0 v4) fun _ =>
  sf_bnd (sf_gR 0 1 p0) fun x5 =>
  sf_bnd (sf_pI 8 1 x5 (0 : Int32)) fun _ =>
  sf_bnd (sf_rz p1) fun x6 =>
  sf_ret x6
  )
set_option maxRecDepth 20000 in
set_option maxHeartbeats 4000000 in
theorem ok_SF_settleText (p0 : Option Nat) (p1 : Int32) : sf_Ok ({ cls := "SplitFares", name := "settleText", desc := "(Z)Z" } : Jvm.MethodName) prog_1_method_50_code 2 (some .boolean) 2 [sf_rv p0, .int p1] (jx_SF_settleText p0 p1) (fun r => some (.int r)) := by
  refine sf_Ok.of (env := [some (sf_rv p0), some (.int p1)]) (plainFor_of_name (by decide)) [false, false] (fun G => ⟨pk_r, pk_i, trivial⟩) (Nat.le_of_ble_eq_true rfl) rfl (fun X => ?_)
  unfold jx_SF_settleText
  refine fp_aload_n (i := 0) (r := p0) dd_SF_settleText_0 rfl rfl (fr_pc (pc' := 1) rfl ?_)
  refine fp_iload_n (i := 1) (x := p1) dd_SF_settleText_1 rfl rfl (fr_pc (pc' := 2) rfl ?_)
  refine fr_bnd (l1 := (fun (v4 : (Int32)) => sf_p 16 [some (sf_rv p0), some (.int p1)] [.int v4, sf_rv p0])) ?_ (fun v4 => ?_)
  · refine fr_if_eq (tgt := 9) dd_SF_settleText_2 rfl (fun _ => ?_) (fun _ => ?_)
    · refine fp_aload_n (i := 0) (r := p0) dd_SF_settleText_9 rfl rfl (fr_pc (pc' := 10) rfl ?_)
      refine fr_gR cl_0 2 (by decide) rfl sw_317 dd_SF_settleText_10 (fun x2 => fr_pc (pc' := 13) rfl ?_)
      refine fr_callV (stk := [sf_rv p0]) (As := []) cl_7 (ok_Reader_place x2) mt_Reader_place rfl rfl sw_716 sw_717 sw_718 (by decide) (Nat.le_of_ble_eq_true rfl) dd_SF_settleText_13 (fun x3 => fr_to (pc' := 16) (env' := [some (sf_rv p0), some (.int p1)]) (stk' := [.int x3, sf_rv p0]) rfl rfl rfl ?_)
      exact fr_ret rfl
    · refine fr_pc (pc' := 5) rfl ?_
      refine fp_iconst (v := (-1 : Int32)) dd_SF_settleText_5 (by decide) (fr_pc (pc' := 6) rfl ?_)
      refine fp_goto (tgt := 16) dd_SF_settleText_6 rfl ?_
      exact fr_ret rfl
  · refine fr_pI cl_0 9 (by decide) rfl sw_324 rfl ⟨rfl, rfl⟩ dd_SF_settleText_16 (fr_pc (pc' := 19) rfl ?_)
    refine fp_aload_n (i := 0) (r := p0) dd_SF_settleText_19 rfl rfl (fr_pc (pc' := 20) rfl ?_)
    refine fr_gR cl_0 1 (by decide) rfl sw_316 dd_SF_settleText_20 (fun x5 => fr_pc (pc' := 23) rfl ?_)
    refine fp_iconst (v := (0 : Int32)) dd_SF_settleText_23 (by decide) (fr_pc (pc' := 24) rfl ?_)
    refine fr_pI cl_8 1 (by decide) rfl sw_229 rfl ⟨rfl, rfl⟩ dd_SF_settleText_24 (fr_pc (pc' := 27) rfl ?_)
    refine fp_iload_n (i := 1) (x := p1) dd_SF_settleText_27 rfl rfl (fr_pc (pc' := 28) rfl ?_)
    exact fr_zret (r := fun x6 => x6) (fun _ => rfl) rfl dd_SF_settleText_28
theorem mt_SF_law : sf_Mt ({ cls := "SplitFares", name := "law", desc := "()I" } : Jvm.MethodName) prog_1_method_12_code 3 (some .int) 0 := ⟨sw_521, sw_1, ⟨by decide, by decide, by decide +kernel⟩, by decide⟩
theorem dd_SF_law_0 : decode prog_1_method_12_code 0 = .ok (.aload_n 0, 1) := by decide +kernel
theorem dd_SF_law_1 : decode prog_1_method_12_code 1 = .ok (.getfield 12, 3) := by decide +kernel
theorem dd_SF_law_4 : decode prog_1_method_12_code 4 = .ok (.getfield 67, 3) := by decide +kernel
theorem dd_SF_law_7 : decode prog_1_method_12_code 7 = .ok (.astore_n 1, 1) := by decide +kernel
theorem dd_SF_law_8 : decode prog_1_method_12_code 8 = .ok (.aload_n 1, 1) := by decide +kernel
theorem dd_SF_law_9 : decode prog_1_method_12_code 9 = .ok (.getfield 151, 3) := by decide +kernel
theorem dd_SF_law_12 : decode prog_1_method_12_code 12 = .ok (.bipush 6, 2) := by decide +kernel
theorem dd_SF_law_14 : decode prog_1_method_12_code 14 = .ok (.if_icmp .lt 18, 3) := by decide +kernel
theorem dd_SF_law_17 : decode prog_1_method_12_code 17 = .ok (.aload_n 0, 1) := by decide +kernel
theorem dd_SF_law_18 : decode prog_1_method_12_code 18 = .ok (.getfield 19, 3) := by decide +kernel
theorem dd_SF_law_21 : decode prog_1_method_12_code 21 = .ok (.iconst 0, 1) := by decide +kernel
theorem dd_SF_law_22 : decode prog_1_method_12_code 22 = .ok (.putfield 141, 3) := by decide +kernel
theorem dd_SF_law_25 : decode prog_1_method_12_code 25 = .ok (.aload_n 0, 1) := by decide +kernel
theorem dd_SF_law_26 : decode prog_1_method_12_code 26 = .ok (.bipush (-5), 2) := by decide +kernel
theorem dd_SF_law_28 : decode prog_1_method_12_code 28 = .ok (.invokevirtual 119, 3) := by decide +kernel
theorem dd_SF_law_31 : decode prog_1_method_12_code 31 = .ok (.ireturn, 1) := by decide +kernel
theorem dd_SF_law_32 : decode prog_1_method_12_code 32 = .ok (.aload_n 0, 1) := by decide +kernel
theorem dd_SF_law_33 : decode prog_1_method_12_code 33 = .ok (.aload_n 0, 1) := by decide +kernel
theorem dd_SF_law_34 : decode prog_1_method_12_code 34 = .ok (.getfield 26, 3) := by decide +kernel
theorem dd_SF_law_37 : decode prog_1_method_12_code 37 = .ok (.aload_n 0, 1) := by decide +kernel
theorem dd_SF_law_38 : decode prog_1_method_12_code 38 = .ok (.getfield 19, 3) := by decide +kernel
theorem dd_SF_law_41 : decode prog_1_method_12_code 41 = .ok (.iconst 0, 1) := by decide +kernel
theorem dd_SF_law_42 : decode prog_1_method_12_code 42 = .ok (.invokevirtual 154, 3) := by decide +kernel
theorem dd_SF_law_45 : decode prog_1_method_12_code 45 = .ok (.invokevirtual 158, 3) := by decide +kernel
theorem dd_SF_law_48 : decode prog_1_method_12_code 48 = .ok (.ifCond .ne 10, 3) := by decide +kernel
theorem dd_SF_law_51 : decode prog_1_method_12_code 51 = .ok (.aload_n 0, 1) := by decide +kernel
theorem dd_SF_law_52 : decode prog_1_method_12_code 52 = .ok (.bipush (-6), 2) := by decide +kernel
theorem dd_SF_law_54 : decode prog_1_method_12_code 54 = .ok (.invokevirtual 119, 3) := by decide +kernel
theorem dd_SF_law_57 : decode prog_1_method_12_code 57 = .ok (.ireturn, 1) := by decide +kernel
theorem dd_SF_law_58 : decode prog_1_method_12_code 58 = .ok (.new 162, 3) := by decide +kernel
theorem dd_SF_law_61 : decode prog_1_method_12_code 61 = .ok (.dup, 1) := by decide +kernel
theorem dd_SF_law_62 : decode prog_1_method_12_code 62 = .ok (.invokespecial 164, 3) := by decide +kernel
theorem dd_SF_law_65 : decode prog_1_method_12_code 65 = .ok (.astore_n 2, 1) := by decide +kernel
theorem dd_SF_law_66 : decode prog_1_method_12_code 66 = .ok (.aload_n 2, 1) := by decide +kernel
theorem dd_SF_law_67 : decode prog_1_method_12_code 67 = .ok (.aload_n 0, 1) := by decide +kernel
theorem dd_SF_law_68 : decode prog_1_method_12_code 68 = .ok (.getfield 26, 3) := by decide +kernel
theorem dd_SF_law_71 : decode prog_1_method_12_code 71 = .ok (.getfield 165, 3) := by decide +kernel
theorem dd_SF_law_74 : decode prog_1_method_12_code 74 = .ok (.invokevirtual 169, 3) := by decide +kernel
theorem dd_SF_law_77 : decode prog_1_method_12_code 77 = .ok (.aload_n 0, 1) := by decide +kernel
theorem dd_SF_law_78 : decode prog_1_method_12_code 78 = .ok (.aload_n 1, 1) := by decide +kernel
theorem dd_SF_law_79 : decode prog_1_method_12_code 79 = .ok (.aload_n 2, 1) := by decide +kernel
theorem dd_SF_law_80 : decode prog_1_method_12_code 80 = .ok (.invokevirtual 173, 3) := by decide +kernel
theorem dd_SF_law_83 : decode prog_1_method_12_code 83 = .ok (.invokevirtual 138, 3) := by decide +kernel
theorem dd_SF_law_86 : decode prog_1_method_12_code 86 = .ok (.ireturn, 1) := by decide +kernel
def jx_SF_law (p0 : Option Nat) : sf_M (Int32) :=
  sf_bnd (sf_gR 0 0 p0) fun x1 =>
  sf_bnd (sf_gR 1 0 x1) fun x2 =>
  sf_bnd (sf_gI 4 5 x2) fun x3 =>
  if x3 < (6 : Int32) then (
  sf_bnd (sf_gR 0 2 p0) fun x5 =>
  sf_bnd (sf_gR 0 1 p0) fun x6 =>
  sf_bnd (sf_rc 7 x5 (jx_Reader_readText x5 x6 (0 : Int32))) fun x7 =>
  sf_bnd (sf_rc 0 p0 (jx_SF_settleText p0 x7)) fun x8 =>
  if x8 = 0 then (
  sf_bnd (sf_rc 0 p0 (jx_SF_refused p0 (-6 : Int32))) fun x10 =>
  sf_ret x10
  ) else (
  sf_bnd (sf_new 6 5) fun x11 =>
  sf_bnd (sf_rc 6 x11 (jx_Program_init x11)) fun _ =>
  sf_bnd (sf_gR 0 2 p0) fun x13 =>
  sf_bnd (sf_gR 7 0 x13) fun x14 =>
  sf_bnd (sf_rc 6 x11 (jx_Program_copyFrom x11 x14)) fun _ =>
  sf_bnd (sf_rc 4 x2 (jx_Office_addLaw x2 x11)) fun x16 =>
  sf_bnd (sf_rc 0 p0 (jx_SF_accepted p0 x16)) fun x17 =>
  sf_ret x17
  )
  ) else (
  sf_bnd (sf_gR 0 1 p0) fun x18 =>
  sf_bnd (sf_pI 8 1 x18 (0 : Int32)) fun _ =>
  sf_bnd (sf_rc 0 p0 (jx_SF_refused p0 (-5 : Int32))) fun x19 =>
  sf_ret x19
  )
set_option maxRecDepth 20000 in
set_option maxHeartbeats 4000000 in
theorem ok_SF_law (p0 : Option Nat) : sf_Ok ({ cls := "SplitFares", name := "law", desc := "()I" } : Jvm.MethodName) prog_1_method_12_code 3 (some .int) 212 [sf_rv p0] (jx_SF_law p0) (fun r => some (.int r)) := by
  refine sf_Ok.of (env := [some (sf_rv p0), none, none]) (plainFor_of_name (by decide)) [false] (fun G => ⟨pk_r, trivial⟩) (Nat.le_of_ble_eq_true rfl) rfl (fun X => ?_)
  unfold jx_SF_law
  refine fp_aload_n (i := 0) (r := p0) dd_SF_law_0 rfl rfl (fr_pc (pc' := 1) rfl ?_)
  refine fr_gR cl_0 0 (by decide) rfl sw_315 dd_SF_law_1 (fun x1 => fr_pc (pc' := 4) rfl ?_)
  refine fr_gR cl_1 0 (by decide) rfl sw_192 dd_SF_law_4 (fun x2 => fr_pc (pc' := 7) rfl ?_)
  refine fp_astore_n (i := 1) dd_SF_law_7 rfl (Nat.le_of_ble_eq_true rfl) (fun _ => c1_r rfl) (fr_to (pc' := 8) (env' := [some (sf_rv p0), some (sf_rv x2), none]) (stk' := []) rfl rfl rfl ?_)
  refine fp_aload_n (i := 1) (r := x2) dd_SF_law_8 rfl rfl (fr_pc (pc' := 9) rfl ?_)
  refine fr_gI cl_4 5 (by decide) rfl sw_100 dd_SF_law_9 (fun x3 => fr_pc (pc' := 12) rfl ?_)
  refine fp_bipush (v := (6 : Int32)) dd_SF_law_12 (by decide) (fr_pc (pc' := 14) rfl ?_)
  refine fr_icmp_lt (tgt := 32) dd_SF_law_14 rfl (fun _ => ?_) (fun _ => ?_)
  · refine fp_aload_n (i := 0) (r := p0) dd_SF_law_32 rfl rfl (fr_pc (pc' := 33) rfl ?_)
    refine fp_aload_n (i := 0) (r := p0) dd_SF_law_33 rfl rfl (fr_pc (pc' := 34) rfl ?_)
    refine fr_gR cl_0 2 (by decide) rfl sw_317 dd_SF_law_34 (fun x5 => fr_pc (pc' := 37) rfl ?_)
    refine fp_aload_n (i := 0) (r := p0) dd_SF_law_37 rfl rfl (fr_pc (pc' := 38) rfl ?_)
    refine fr_gR cl_0 1 (by decide) rfl sw_316 dd_SF_law_38 (fun x6 => fr_pc (pc' := 41) rfl ?_)
    refine fp_iconst (v := (0 : Int32)) dd_SF_law_41 (by decide) (fr_pc (pc' := 42) rfl ?_)
    refine fr_callV (stk := [sf_rv p0]) (As := [sf_rv x6, .int (0 : Int32)]) cl_7 (ok_Reader_readText x5 x6 (0 : Int32)) mt_Reader_readText rfl rfl sw_522 sw_523 sw_524 (by decide) (Nat.le_of_ble_eq_true rfl) dd_SF_law_42 (fun x7 => fr_to (pc' := 45) (env' := [some (sf_rv p0), some (sf_rv x2), none]) (stk' := [.int x7, sf_rv p0]) rfl rfl rfl ?_)
    refine fr_callV (stk := []) (As := [.int x7]) cl_0 (ok_SF_settleText p0 x7) mt_SF_settleText rfl rfl sw_712 sw_714 sp_17 (by decide) (Nat.le_of_ble_eq_true rfl) dd_SF_law_45 (fun x8 => fr_to (pc' := 48) (env' := [some (sf_rv p0), some (sf_rv x2), none]) (stk' := [.int x8]) rfl rfl rfl ?_)
    refine fr_if_ne (tgt := 58) dd_SF_law_48 rfl (fun _ => ?_) (fun _ => ?_)
    · refine fr_pc (pc' := 51) rfl ?_
      refine fp_aload_n (i := 0) (r := p0) dd_SF_law_51 rfl rfl (fr_pc (pc' := 52) rfl ?_)
      refine fp_bipush (v := (-6 : Int32)) dd_SF_law_52 (by decide) (fr_pc (pc' := 54) rfl ?_)
      refine fr_callV (stk := []) (As := [.int (-6 : Int32)]) cl_0 (ok_SF_refused p0 (-6 : Int32)) mt_SF_refused rfl rfl sw_374 sw_376 sp_1 (by decide) (Nat.le_of_ble_eq_true rfl) dd_SF_law_54 (fun x10 => fr_to (pc' := 57) (env' := [some (sf_rv p0), some (sf_rv x2), none]) (stk' := [.int x10]) rfl rfl rfl ?_)
      exact fr_iret (v := x10) rfl rfl dd_SF_law_57
    · refine fr_new cl_6 sw_724 sw_242 sw_10 dd_SF_law_58 (fun x11 => fr_pc (pc' := 61) rfl ?_)
      refine fp_dup_r dd_SF_law_61 (fr_pc (pc' := 62) rfl ?_)
      refine fr_callIN (stk := [sf_rv x11]) (As := []) (ci := 6) (by decide) rfl (ok_Program_init x11) mt_Program_init rfl rfl sn_725 sw_244 (by decide) (Nat.le_of_ble_eq_true rfl) dd_SF_law_62 (fun u12 => fr_to (pc' := 65) (env' := [some (sf_rv p0), some (sf_rv x2), none]) (stk' := [sf_rv x11]) rfl rfl rfl ?_)
      refine fp_astore_n (i := 2) dd_SF_law_65 rfl (Nat.le_of_ble_eq_true rfl) (fun _ => c1_r rfl) (fr_to (pc' := 66) (env' := [some (sf_rv p0), some (sf_rv x2), some (sf_rv x11)]) (stk' := []) rfl rfl rfl ?_)
      refine fp_aload_n (i := 2) (r := x11) dd_SF_law_66 rfl rfl (fr_pc (pc' := 67) rfl ?_)
      refine fp_aload_n (i := 0) (r := p0) dd_SF_law_67 rfl rfl (fr_pc (pc' := 68) rfl ?_)
      refine fr_gR cl_0 2 (by decide) rfl sw_317 dd_SF_law_68 (fun x13 => fr_pc (pc' := 71) rfl ?_)
      refine fr_gR cl_7 0 (by decide) rfl sw_300 dd_SF_law_71 (fun x14 => fr_pc (pc' := 74) rfl ?_)
      refine fr_callV (stk := []) (As := [sf_rv x14]) cl_6 (ok_Program_copyFrom x11 x14) mt_Program_copyFrom rfl rfl sw_726 sw_727 sw_728 (by decide) (Nat.le_of_ble_eq_true rfl) dd_SF_law_74 (fun u15 => fr_to (pc' := 77) (env' := [some (sf_rv p0), some (sf_rv x2), some (sf_rv x11)]) (stk' := []) rfl rfl rfl ?_)
      refine fp_aload_n (i := 0) (r := p0) dd_SF_law_77 rfl rfl (fr_pc (pc' := 78) rfl ?_)
      refine fp_aload_n (i := 1) (r := x2) dd_SF_law_78 rfl rfl (fr_pc (pc' := 79) rfl ?_)
      refine fp_aload_n (i := 2) (r := x11) dd_SF_law_79 rfl rfl (fr_pc (pc' := 80) rfl ?_)
      refine fr_callV (stk := [sf_rv p0]) (As := [sf_rv x11]) cl_4 (ok_Office_addLaw x2 x11) mt_Office_addLaw rfl rfl sw_733 sw_734 sw_735 (by decide) (Nat.le_of_ble_eq_true rfl) dd_SF_law_80 (fun x16 => fr_to (pc' := 83) (env' := [some (sf_rv p0), some (sf_rv x2), some (sf_rv x11)]) (stk' := [.int x16, sf_rv p0]) rfl rfl rfl ?_)
      refine fr_callV (stk := []) (As := [.int x16]) cl_0 (ok_SF_accepted p0 x16) mt_SF_accepted rfl rfl sw_378 sw_380 sp_2 (by decide) (Nat.le_of_ble_eq_true rfl) dd_SF_law_83 (fun x17 => fr_to (pc' := 86) (env' := [some (sf_rv p0), some (sf_rv x2), some (sf_rv x11)]) (stk' := [.int x17]) rfl rfl rfl ?_)
      exact fr_iret (v := x17) rfl rfl dd_SF_law_86
  · refine fr_pc (pc' := 17) rfl ?_
    refine fp_aload_n (i := 0) (r := p0) dd_SF_law_17 rfl rfl (fr_pc (pc' := 18) rfl ?_)
    refine fr_gR cl_0 1 (by decide) rfl sw_316 dd_SF_law_18 (fun x18 => fr_pc (pc' := 21) rfl ?_)
    refine fp_iconst (v := (0 : Int32)) dd_SF_law_21 (by decide) (fr_pc (pc' := 22) rfl ?_)
    refine fr_pI cl_8 1 (by decide) rfl sw_229 rfl ⟨rfl, rfl⟩ dd_SF_law_22 (fr_pc (pc' := 25) rfl ?_)
    refine fp_aload_n (i := 0) (r := p0) dd_SF_law_25 rfl rfl (fr_pc (pc' := 26) rfl ?_)
    refine fp_bipush (v := (-5 : Int32)) dd_SF_law_26 (by decide) (fr_pc (pc' := 28) rfl ?_)
    refine fr_callV (stk := []) (As := [.int (-5 : Int32)]) cl_0 (ok_SF_refused p0 (-5 : Int32)) mt_SF_refused rfl rfl sw_374 sw_376 sp_1 (by decide) (Nat.le_of_ble_eq_true rfl) dd_SF_law_28 (fun x19 => fr_to (pc' := 31) (env' := [some (sf_rv p0), some (sf_rv x2), none]) (stk' := [.int x19]) rfl rfl rfl ?_)
    exact fr_iret (v := x19) rfl rfl dd_SF_law_31
theorem mt_SF_orders : sf_Mt ({ cls := "SplitFares", name := "orders", desc := "()I" } : Jvm.MethodName) prog_1_method_13_code 3 (some .int) 0 := ⟨sw_741, sw_1, ⟨by decide, by decide, by decide +kernel⟩, by decide⟩
theorem dd_SF_orders_0 : decode prog_1_method_13_code 0 = .ok (.aload_n 0, 1) := by decide +kernel
theorem dd_SF_orders_1 : decode prog_1_method_13_code 1 = .ok (.iconst (-1), 1) := by decide +kernel
theorem dd_SF_orders_2 : decode prog_1_method_13_code 2 = .ok (.putfield 58, 3) := by decide +kernel
theorem dd_SF_orders_5 : decode prog_1_method_13_code 5 = .ok (.aload_n 0, 1) := by decide +kernel
theorem dd_SF_orders_6 : decode prog_1_method_13_code 6 = .ok (.aload_n 0, 1) := by decide +kernel
theorem dd_SF_orders_7 : decode prog_1_method_13_code 7 = .ok (.getfield 26, 3) := by decide +kernel
theorem dd_SF_orders_10 : decode prog_1_method_13_code 10 = .ok (.aload_n 0, 1) := by decide +kernel
theorem dd_SF_orders_11 : decode prog_1_method_13_code 11 = .ok (.getfield 19, 3) := by decide +kernel
theorem dd_SF_orders_14 : decode prog_1_method_13_code 14 = .ok (.iconst 1, 1) := by decide +kernel
theorem dd_SF_orders_15 : decode prog_1_method_13_code 15 = .ok (.invokevirtual 154, 3) := by decide +kernel
theorem dd_SF_orders_18 : decode prog_1_method_13_code 18 = .ok (.invokevirtual 158, 3) := by decide +kernel
theorem dd_SF_orders_21 : decode prog_1_method_13_code 21 = .ok (.ifCond .ne 10, 3) := by decide +kernel
theorem dd_SF_orders_24 : decode prog_1_method_13_code 24 = .ok (.aload_n 0, 1) := by decide +kernel
theorem dd_SF_orders_25 : decode prog_1_method_13_code 25 = .ok (.bipush (-6), 2) := by decide +kernel
theorem dd_SF_orders_27 : decode prog_1_method_13_code 27 = .ok (.invokevirtual 119, 3) := by decide +kernel
theorem dd_SF_orders_30 : decode prog_1_method_13_code 30 = .ok (.ireturn, 1) := by decide +kernel
theorem dd_SF_orders_31 : decode prog_1_method_13_code 31 = .ok (.aload_n 0, 1) := by decide +kernel
theorem dd_SF_orders_32 : decode prog_1_method_13_code 32 = .ok (.getfield 26, 3) := by decide +kernel
theorem dd_SF_orders_35 : decode prog_1_method_13_code 35 = .ok (.getfield 165, 3) := by decide +kernel
theorem dd_SF_orders_38 : decode prog_1_method_13_code 38 = .ok (.astore_n 1, 1) := by decide +kernel
theorem dd_SF_orders_39 : decode prog_1_method_13_code 39 = .ok (.aload_n 0, 1) := by decide +kernel
theorem dd_SF_orders_40 : decode prog_1_method_13_code 40 = .ok (.getfield 12, 3) := by decide +kernel
theorem dd_SF_orders_43 : decode prog_1_method_13_code 43 = .ok (.invokevirtual 177, 3) := by decide +kernel
theorem dd_SF_orders_46 : decode prog_1_method_13_code 46 = .ok (.iconst 0, 1) := by decide +kernel
theorem dd_SF_orders_47 : decode prog_1_method_13_code 47 = .ok (.istore_n 2, 1) := by decide +kernel
theorem dd_SF_orders_48 : decode prog_1_method_13_code 48 = .ok (.iload_n 2, 1) := by decide +kernel
theorem dd_SF_orders_49 : decode prog_1_method_13_code 49 = .ok (.aload_n 1, 1) := by decide +kernel
theorem dd_SF_orders_50 : decode prog_1_method_13_code 50 = .ok (.getfield 180, 3) := by decide +kernel
theorem dd_SF_orders_53 : decode prog_1_method_13_code 53 = .ok (.if_icmp .ge 34, 3) := by decide +kernel
theorem dd_SF_orders_56 : decode prog_1_method_13_code 56 = .ok (.aload_n 0, 1) := by decide +kernel
theorem dd_SF_orders_57 : decode prog_1_method_13_code 57 = .ok (.getfield 58, 3) := by decide +kernel
theorem dd_SF_orders_60 : decode prog_1_method_13_code 60 = .ok (.iconst (-1), 1) := by decide +kernel
theorem dd_SF_orders_61 : decode prog_1_method_13_code 61 = .ok (.if_icmp .ne 26, 3) := by decide +kernel
theorem dd_SF_orders_64 : decode prog_1_method_13_code 64 = .ok (.aload_n 0, 1) := by decide +kernel
theorem dd_SF_orders_65 : decode prog_1_method_13_code 65 = .ok (.getfield 12, 3) := by decide +kernel
theorem dd_SF_orders_68 : decode prog_1_method_13_code 68 = .ok (.aload_n 1, 1) := by decide +kernel
theorem dd_SF_orders_69 : decode prog_1_method_13_code 69 = .ok (.iload_n 2, 1) := by decide +kernel
theorem dd_SF_orders_70 : decode prog_1_method_13_code 70 = .ok (.invokevirtual 183, 3) := by decide +kernel
theorem dd_SF_orders_73 : decode prog_1_method_13_code 73 = .ok (.ifCond .ne 8, 3) := by decide +kernel
theorem dd_SF_orders_76 : decode prog_1_method_13_code 76 = .ok (.aload_n 0, 1) := by decide +kernel
theorem dd_SF_orders_77 : decode prog_1_method_13_code 77 = .ok (.iload_n 2, 1) := by decide +kernel
theorem dd_SF_orders_78 : decode prog_1_method_13_code 78 = .ok (.putfield 58, 3) := by decide +kernel
theorem dd_SF_orders_81 : decode prog_1_method_13_code 81 = .ok (.iinc 2 1, 3) := by decide +kernel
theorem dd_SF_orders_84 : decode prog_1_method_13_code 84 = .ok (.goto (-36), 3) := by decide +kernel
theorem dd_SF_orders_87 : decode prog_1_method_13_code 87 = .ok (.aload_n 0, 1) := by decide +kernel
theorem dd_SF_orders_88 : decode prog_1_method_13_code 88 = .ok (.getfield 58, 3) := by decide +kernel
theorem dd_SF_orders_91 : decode prog_1_method_13_code 91 = .ok (.iconst (-1), 1) := by decide +kernel
theorem dd_SF_orders_92 : decode prog_1_method_13_code 92 = .ok (.if_icmp .ne 15, 3) := by decide +kernel
theorem dd_SF_orders_95 : decode prog_1_method_13_code 95 = .ok (.aload_n 0, 1) := by decide +kernel
theorem dd_SF_orders_96 : decode prog_1_method_13_code 96 = .ok (.aload_n 0, 1) := by decide +kernel
theorem dd_SF_orders_97 : decode prog_1_method_13_code 97 = .ok (.getfield 12, 3) := by decide +kernel
theorem dd_SF_orders_100 : decode prog_1_method_13_code 100 = .ok (.getfield 187, 3) := by decide +kernel
theorem dd_SF_orders_103 : decode prog_1_method_13_code 103 = .ok (.invokevirtual 138, 3) := by decide +kernel
theorem dd_SF_orders_106 : decode prog_1_method_13_code 106 = .ok (.ireturn, 1) := by decide +kernel
theorem dd_SF_orders_107 : decode prog_1_method_13_code 107 = .ok (.aload_n 0, 1) := by decide +kernel
theorem dd_SF_orders_108 : decode prog_1_method_13_code 108 = .ok (.getfield 12, 3) := by decide +kernel
theorem dd_SF_orders_111 : decode prog_1_method_13_code 111 = .ok (.invokevirtual 190, 3) := by decide +kernel
theorem dd_SF_orders_114 : decode prog_1_method_13_code 114 = .ok (.aload_n 0, 1) := by decide +kernel
theorem dd_SF_orders_115 : decode prog_1_method_13_code 115 = .ok (.bipush (-3), 2) := by decide +kernel
theorem dd_SF_orders_117 : decode prog_1_method_13_code 117 = .ok (.invokevirtual 119, 3) := by decide +kernel
theorem dd_SF_orders_120 : decode prog_1_method_13_code 120 = .ok (.ireturn, 1) := by decide +kernel
def jx_SF_orders (p0 : Option Nat) : sf_M (Int32) :=
  sf_bnd (sf_pI 0 10 p0 (-1 : Int32)) fun _ =>
  sf_bnd (sf_gR 0 2 p0) fun x1 =>
  sf_bnd (sf_gR 0 1 p0) fun x2 =>
  sf_bnd (sf_rc 7 x1 (jx_Reader_readText x1 x2 (1 : Int32))) fun x3 =>
  sf_bnd (sf_rc 0 p0 (jx_SF_settleText p0 x3)) fun x4 =>
  if x4 = 0 then (
  sf_bnd (sf_rc 0 p0 (jx_SF_refused p0 (-6 : Int32))) fun x6 =>
  sf_ret x6
  ) else (
  sf_bnd (sf_gR 0 2 p0) fun x7 =>
  sf_bnd (sf_gR 7 0 x7) fun x8 =>
  sf_bnd (sf_gR 0 0 p0) fun x9 =>
  sf_bnd (sf_rc 1 x9 (jx_Desk_begin x9)) fun _ =>
  sf_bnd (sf_loop (β := (Int32)) (γ := (Unit)) (fun b11 =>
  sf_bnd (sf_gI 6 4 x8) fun x12 =>
  if x12 ≤ b11 then (
  sf_ret (.inr ())
  ) else (
  sf_bnd (sf_gI 0 10 p0) fun x14 =>
  if x14 = (-1 : Int32) then (
  sf_bnd (sf_gR 0 0 p0) fun x16 =>
  sf_bnd (sf_rc 1 x16 (jx_Desk_runClause x16 x8 b11)) fun x17 =>
  if x17 = 0 then (
  sf_bnd (sf_pI 0 10 p0 b11) fun _ =>
  sf_bnd (sf_ret (b11 + (1 : Int32))) fun y19 =>
  sf_ret (.inl y19)
  ) else (
  sf_bnd (sf_ret (b11 + (1 : Int32))) fun y20 =>
  sf_ret (.inl y20)
  )
  ) else (
  sf_ret (.inr ())
  )
  )
  ) sf_fuel (0 : Int32)) (fun e21 =>
  sf_bnd (sf_gI 0 10 p0) fun x22 =>
  if x22 = (-1 : Int32) then (
  sf_bnd (sf_gR 0 0 p0) fun x24 =>
  sf_bnd (sf_gI 1 6 x24) fun x25 =>
  sf_bnd (sf_rc 0 p0 (jx_SF_accepted p0 x25)) fun x26 =>
  sf_ret x26
  ) else (
  sf_bnd (sf_gR 0 0 p0) fun x27 =>
  sf_bnd (sf_rc 1 x27 (jx_Desk_takeBack x27)) fun _ =>
  sf_bnd (sf_rc 0 p0 (jx_SF_refused p0 (-3 : Int32))) fun x29 =>
  sf_ret x29
  )
  )
  )
set_option maxRecDepth 20000 in
set_option maxHeartbeats 4000000 in
theorem ok_SF_orders (p0 : Option Nat) : sf_Ok ({ cls := "SplitFares", name := "orders", desc := "()I" } : Jvm.MethodName) prog_1_method_13_code 3 (some .int) 212 [sf_rv p0] (jx_SF_orders p0) (fun r => some (.int r)) := by
  refine sf_Ok.of (env := [some (sf_rv p0), none, none]) (plainFor_of_name (by decide)) [false] (fun G => ⟨pk_r, trivial⟩) (Nat.le_of_ble_eq_true rfl) rfl (fun X => ?_)
  unfold jx_SF_orders
  refine fp_aload_n (i := 0) (r := p0) dd_SF_orders_0 rfl rfl (fr_pc (pc' := 1) rfl ?_)
  refine fp_iconst (v := (-1 : Int32)) dd_SF_orders_1 (by decide) (fr_pc (pc' := 2) rfl ?_)
  refine fr_pI cl_0 10 (by decide) rfl sw_325 rfl ⟨rfl, rfl⟩ dd_SF_orders_2 (fr_pc (pc' := 5) rfl ?_)
  refine fp_aload_n (i := 0) (r := p0) dd_SF_orders_5 rfl rfl (fr_pc (pc' := 6) rfl ?_)
  refine fp_aload_n (i := 0) (r := p0) dd_SF_orders_6 rfl rfl (fr_pc (pc' := 7) rfl ?_)
  refine fr_gR cl_0 2 (by decide) rfl sw_317 dd_SF_orders_7 (fun x1 => fr_pc (pc' := 10) rfl ?_)
  refine fp_aload_n (i := 0) (r := p0) dd_SF_orders_10 rfl rfl (fr_pc (pc' := 11) rfl ?_)
  refine fr_gR cl_0 1 (by decide) rfl sw_316 dd_SF_orders_11 (fun x2 => fr_pc (pc' := 14) rfl ?_)
  refine fp_iconst (v := (1 : Int32)) dd_SF_orders_14 (by decide) (fr_pc (pc' := 15) rfl ?_)
  refine fr_callV (stk := [sf_rv p0]) (As := [sf_rv x2, .int (1 : Int32)]) cl_7 (ok_Reader_readText x1 x2 (1 : Int32)) mt_Reader_readText rfl rfl sw_522 sw_523 sw_524 (by decide) (Nat.le_of_ble_eq_true rfl) dd_SF_orders_15 (fun x3 => fr_to (pc' := 18) (env' := [some (sf_rv p0), none, none]) (stk' := [.int x3, sf_rv p0]) rfl rfl rfl ?_)
  refine fr_callV (stk := []) (As := [.int x3]) cl_0 (ok_SF_settleText p0 x3) mt_SF_settleText rfl rfl sw_712 sw_714 sp_17 (by decide) (Nat.le_of_ble_eq_true rfl) dd_SF_orders_18 (fun x4 => fr_to (pc' := 21) (env' := [some (sf_rv p0), none, none]) (stk' := [.int x4]) rfl rfl rfl ?_)
  refine fr_if_ne (tgt := 31) dd_SF_orders_21 rfl (fun _ => ?_) (fun _ => ?_)
  · refine fr_pc (pc' := 24) rfl ?_
    refine fp_aload_n (i := 0) (r := p0) dd_SF_orders_24 rfl rfl (fr_pc (pc' := 25) rfl ?_)
    refine fp_bipush (v := (-6 : Int32)) dd_SF_orders_25 (by decide) (fr_pc (pc' := 27) rfl ?_)
    refine fr_callV (stk := []) (As := [.int (-6 : Int32)]) cl_0 (ok_SF_refused p0 (-6 : Int32)) mt_SF_refused rfl rfl sw_374 sw_376 sp_1 (by decide) (Nat.le_of_ble_eq_true rfl) dd_SF_orders_27 (fun x6 => fr_to (pc' := 30) (env' := [some (sf_rv p0), none, none]) (stk' := [.int x6]) rfl rfl rfl ?_)
    exact fr_iret (v := x6) rfl rfl dd_SF_orders_30
  · refine fp_aload_n (i := 0) (r := p0) dd_SF_orders_31 rfl rfl (fr_pc (pc' := 32) rfl ?_)
    refine fr_gR cl_0 2 (by decide) rfl sw_317 dd_SF_orders_32 (fun x7 => fr_pc (pc' := 35) rfl ?_)
    refine fr_gR cl_7 0 (by decide) rfl sw_300 dd_SF_orders_35 (fun x8 => fr_pc (pc' := 38) rfl ?_)
    refine fp_astore_n (i := 1) dd_SF_orders_38 rfl (Nat.le_of_ble_eq_true rfl) (fun _ => c1_r rfl) (fr_to (pc' := 39) (env' := [some (sf_rv p0), some (sf_rv x8), none]) (stk' := []) rfl rfl rfl ?_)
    refine fp_aload_n (i := 0) (r := p0) dd_SF_orders_39 rfl rfl (fr_pc (pc' := 40) rfl ?_)
    refine fr_gR cl_0 0 (by decide) rfl sw_315 dd_SF_orders_40 (fun x9 => fr_pc (pc' := 43) rfl ?_)
    refine fr_callV (stk := []) (As := []) cl_1 (ok_Desk_begin x9) mt_Desk_begin rfl rfl sw_742 sw_743 sw_744 (by decide) (Nat.le_of_ble_eq_true rfl) dd_SF_orders_43 (fun u10 => fr_to (pc' := 46) (env' := [some (sf_rv p0), some (sf_rv x8), none]) (stk' := []) rfl rfl rfl ?_)
    refine fp_iconst (v := (0 : Int32)) dd_SF_orders_46 (by decide) (fr_pc (pc' := 47) rfl ?_)
    refine fp_istore_n (i := 2) dd_SF_orders_47 rfl (Nat.le_of_ble_eq_true rfl) (fun _ => c1_r rfl) (fr_to (pc' := 48) (env' := [some (sf_rv p0), some (sf_rv x8), some (.int (0 : Int32))]) (stk' := []) rfl rfl rfl ?_)
    refine fr_to (pc' := 48) (env' := [some (sf_rv p0), some (sf_rv x8), some (.int (0 : Int32))]) (stk' := []) rfl rfl rfl ?_
    refine fr_bnd (l1 := (fun (e21 : (Unit)) => sf_p 87 [some (sf_rv p0), some (sf_rv x8), none] [])) (fr_loop (Lb := (fun (b11 : (Int32)) => sf_p 48 [some (sf_rv p0), some (sf_rv x8), some (.int b11)] [])) (fun b11 => ?_) _ _) (fun e21 => ?_)
    · refine fp_iload_n (i := 2) (x := b11) dd_SF_orders_48 rfl rfl (fr_pc (pc' := 49) rfl ?_)
      refine fp_aload_n (i := 1) (r := x8) dd_SF_orders_49 rfl rfl (fr_pc (pc' := 50) rfl ?_)
      refine fr_gI cl_6 4 (by decide) rfl sw_253 dd_SF_orders_50 (fun x12 => fr_pc (pc' := 53) rfl ?_)
      refine fr_icmp_ge (tgt := 87) dd_SF_orders_53 rfl (fun _ => ?_) (fun _ => ?_)
      · refine fr_wk [true, true, false] ?_
        exact fr_ret rfl
      · refine fr_pc (pc' := 56) rfl ?_
        refine fp_aload_n (i := 0) (r := p0) dd_SF_orders_56 rfl rfl (fr_pc (pc' := 57) rfl ?_)
        refine fr_gI cl_0 10 (by decide) rfl sw_325 dd_SF_orders_57 (fun x14 => fr_pc (pc' := 60) rfl ?_)
        refine fp_iconst (v := (-1 : Int32)) dd_SF_orders_60 (by decide) (fr_pc (pc' := 61) rfl ?_)
        refine fr_icmp_ne (tgt := 87) dd_SF_orders_61 rfl (fun _ => ?_) (fun _ => ?_)
        · refine fr_pc (pc' := 64) rfl ?_
          refine fp_aload_n (i := 0) (r := p0) dd_SF_orders_64 rfl rfl (fr_pc (pc' := 65) rfl ?_)
          refine fr_gR cl_0 0 (by decide) rfl sw_315 dd_SF_orders_65 (fun x16 => fr_pc (pc' := 68) rfl ?_)
          refine fp_aload_n (i := 1) (r := x8) dd_SF_orders_68 rfl rfl (fr_pc (pc' := 69) rfl ?_)
          refine fp_iload_n (i := 2) (x := b11) dd_SF_orders_69 rfl rfl (fr_pc (pc' := 70) rfl ?_)
          refine fr_callV (stk := []) (As := [sf_rv x8, .int b11]) cl_1 (ok_Desk_runClause x16 x8 b11) mt_Desk_runClause rfl rfl sw_756 sw_757 sw_758 (by decide) (Nat.le_of_ble_eq_true rfl) dd_SF_orders_70 (fun x17 => fr_to (pc' := 73) (env' := [some (sf_rv p0), some (sf_rv x8), some (.int b11)]) (stk' := [.int x17]) rfl rfl rfl ?_)
          refine fr_if_ne (tgt := 81) dd_SF_orders_73 rfl (fun _ => ?_) (fun _ => ?_)
          · refine fr_pc (pc' := 76) rfl ?_
            refine fp_aload_n (i := 0) (r := p0) dd_SF_orders_76 rfl rfl (fr_pc (pc' := 77) rfl ?_)
            refine fp_iload_n (i := 2) (x := b11) dd_SF_orders_77 rfl rfl (fr_pc (pc' := 78) rfl ?_)
            refine fr_pI cl_0 10 (by decide) rfl sw_325 rfl ⟨rfl, rfl⟩ dd_SF_orders_78 (fr_pc (pc' := 81) rfl ?_)
            refine fr_niinc (i := 2) (x := b11) (w := (1 : Int32)) dd_SF_orders_81 rfl (by decide) (Nat.le_of_ble_eq_true rfl) (fun _ => c1_r rfl) (fun y19 => fr_to (pc' := 84) (env' := [some (sf_rv p0), some (sf_rv x8), some (.int y19)]) (stk' := []) rfl rfl rfl ?_)
            refine fp_goto (tgt := 48) dd_SF_orders_84 rfl ?_
            exact fr_ret rfl
          · refine fr_niinc (i := 2) (x := b11) (w := (1 : Int32)) dd_SF_orders_81 rfl (by decide) (Nat.le_of_ble_eq_true rfl) (fun _ => c1_r rfl) (fun y20 => fr_to (pc' := 84) (env' := [some (sf_rv p0), some (sf_rv x8), some (.int y20)]) (stk' := []) rfl rfl rfl ?_)
            refine fp_goto (tgt := 48) dd_SF_orders_84 rfl ?_
            exact fr_ret rfl
        · refine fr_wk [true, true, false] ?_
          exact fr_ret rfl
    · refine fp_aload_n (i := 0) (r := p0) dd_SF_orders_87 rfl rfl (fr_pc (pc' := 88) rfl ?_)
      refine fr_gI cl_0 10 (by decide) rfl sw_325 dd_SF_orders_88 (fun x22 => fr_pc (pc' := 91) rfl ?_)
      refine fp_iconst (v := (-1 : Int32)) dd_SF_orders_91 (by decide) (fr_pc (pc' := 92) rfl ?_)
      refine fr_icmp_ne (tgt := 107) dd_SF_orders_92 rfl (fun _ => ?_) (fun _ => ?_)
      · refine fr_pc (pc' := 95) rfl ?_
        refine fp_aload_n (i := 0) (r := p0) dd_SF_orders_95 rfl rfl (fr_pc (pc' := 96) rfl ?_)
        refine fp_aload_n (i := 0) (r := p0) dd_SF_orders_96 rfl rfl (fr_pc (pc' := 97) rfl ?_)
        refine fr_gR cl_0 0 (by decide) rfl sw_315 dd_SF_orders_97 (fun x24 => fr_pc (pc' := 100) rfl ?_)
        refine fr_gI cl_1 6 (by decide) rfl sw_201 dd_SF_orders_100 (fun x25 => fr_pc (pc' := 103) rfl ?_)
        refine fr_callV (stk := []) (As := [.int x25]) cl_0 (ok_SF_accepted p0 x25) mt_SF_accepted rfl rfl sw_378 sw_380 sp_2 (by decide) (Nat.le_of_ble_eq_true rfl) dd_SF_orders_103 (fun x26 => fr_to (pc' := 106) (env' := [some (sf_rv p0), some (sf_rv x8), none]) (stk' := [.int x26]) rfl rfl rfl ?_)
        exact fr_iret (v := x26) rfl rfl dd_SF_orders_106
      · refine fp_aload_n (i := 0) (r := p0) dd_SF_orders_107 rfl rfl (fr_pc (pc' := 108) rfl ?_)
        refine fr_gR cl_0 0 (by decide) rfl sw_315 dd_SF_orders_108 (fun x27 => fr_pc (pc' := 111) rfl ?_)
        refine fr_callV (stk := []) (As := []) cl_1 (ok_Desk_takeBack x27) mt_Desk_takeBack rfl rfl sw_849 sw_850 sw_851 (by decide) (Nat.le_of_ble_eq_true rfl) dd_SF_orders_111 (fun u28 => fr_to (pc' := 114) (env' := [some (sf_rv p0), some (sf_rv x8), none]) (stk' := []) rfl rfl rfl ?_)
        refine fp_aload_n (i := 0) (r := p0) dd_SF_orders_114 rfl rfl (fr_pc (pc' := 115) rfl ?_)
        refine fp_bipush (v := (-3 : Int32)) dd_SF_orders_115 (by decide) (fr_pc (pc' := 117) rfl ?_)
        refine fr_callV (stk := []) (As := [.int (-3 : Int32)]) cl_0 (ok_SF_refused p0 (-3 : Int32)) mt_SF_refused rfl rfl sw_374 sw_376 sp_1 (by decide) (Nat.le_of_ble_eq_true rfl) dd_SF_orders_117 (fun x29 => fr_to (pc' := 120) (env' := [some (sf_rv p0), some (sf_rv x8), none]) (stk' := [.int x29]) rfl rfl rfl ?_)
        exact fr_iret (v := x29) rfl rfl dd_SF_orders_120
theorem mt_SF_fault : sf_Mt ({ cls := "SplitFares", name := "fault", desc := "()I" } : Jvm.MethodName) prog_1_method_14_code 1 (some .int) 0 := ⟨sw_856, sw_1, ⟨by decide, by decide, by decide +kernel⟩, by decide⟩
theorem dd_SF_fault_0 : decode prog_1_method_14_code 0 = .ok (.aload_n 0, 1) := by decide +kernel
theorem dd_SF_fault_1 : decode prog_1_method_14_code 1 = .ok (.getfield 54, 3) := by decide +kernel
theorem dd_SF_fault_4 : decode prog_1_method_14_code 4 = .ok (.ireturn, 1) := by decide +kernel
def jx_SF_fault (p0 : Option Nat) : sf_M (Int32) :=
  sf_bnd (sf_gI 0 9 p0) fun x1 =>
  sf_ret x1
set_option maxRecDepth 20000 in
set_option maxHeartbeats 4000000 in
theorem ok_SF_fault (p0 : Option Nat) : sf_Ok ({ cls := "SplitFares", name := "fault", desc := "()I" } : Jvm.MethodName) prog_1_method_14_code 1 (some .int) 0 [sf_rv p0] (jx_SF_fault p0) (fun r => some (.int r)) := by
  refine sf_Ok.of (env := [some (sf_rv p0)]) (plainFor_of_name (by decide)) [false] (fun G => ⟨pk_r, trivial⟩) (Nat.le_of_ble_eq_true rfl) rfl (fun X => ?_)
  unfold jx_SF_fault
  refine fp_aload_n (i := 0) (r := p0) dd_SF_fault_0 rfl rfl (fr_pc (pc' := 1) rfl ?_)
  refine fr_gI cl_0 9 (by decide) rfl sw_324 dd_SF_fault_1 (fun x1 => fr_pc (pc' := 4) rfl ?_)
  exact fr_iret (v := x1) rfl rfl dd_SF_fault_4
theorem mt_SF_stopped : sf_Mt ({ cls := "SplitFares", name := "stopped", desc := "()I" } : Jvm.MethodName) prog_1_method_15_code 1 (some .int) 0 := ⟨sw_860, sw_1, ⟨by decide, by decide, by decide +kernel⟩, by decide⟩
theorem dd_SF_stopped_0 : decode prog_1_method_15_code 0 = .ok (.aload_n 0, 1) := by decide +kernel
theorem dd_SF_stopped_1 : decode prog_1_method_15_code 1 = .ok (.getfield 58, 3) := by decide +kernel
theorem dd_SF_stopped_4 : decode prog_1_method_15_code 4 = .ok (.ireturn, 1) := by decide +kernel
def jx_SF_stopped (p0 : Option Nat) : sf_M (Int32) :=
  sf_bnd (sf_gI 0 10 p0) fun x1 =>
  sf_ret x1
set_option maxRecDepth 20000 in
set_option maxHeartbeats 4000000 in
theorem ok_SF_stopped (p0 : Option Nat) : sf_Ok ({ cls := "SplitFares", name := "stopped", desc := "()I" } : Jvm.MethodName) prog_1_method_15_code 1 (some .int) 0 [sf_rv p0] (jx_SF_stopped p0) (fun r => some (.int r)) := by
  refine sf_Ok.of (env := [some (sf_rv p0)]) (plainFor_of_name (by decide)) [false] (fun G => ⟨pk_r, trivial⟩) (Nat.le_of_ble_eq_true rfl) rfl (fun X => ?_)
  unfold jx_SF_stopped
  refine fp_aload_n (i := 0) (r := p0) dd_SF_stopped_0 rfl rfl (fr_pc (pc' := 1) rfl ?_)
  refine fr_gI cl_0 10 (by decide) rfl sw_325 dd_SF_stopped_1 (fun x1 => fr_pc (pc' := 4) rfl ?_)
  exact fr_iret (v := x1) rfl rfl dd_SF_stopped_4
theorem mt_SF_force : sf_Mt ({ cls := "SplitFares", name := "force", desc := "(I)I" } : Jvm.MethodName) prog_1_method_16_code 4 (some .int) 1 := ⟨sw_864, sw_1, ⟨by decide, by decide, by decide +kernel⟩, by decide⟩
theorem dd_SF_force_0 : decode prog_1_method_16_code 0 = .ok (.aload_n 0, 1) := by decide +kernel
theorem dd_SF_force_1 : decode prog_1_method_16_code 1 = .ok (.getfield 12, 3) := by decide +kernel
theorem dd_SF_force_4 : decode prog_1_method_16_code 4 = .ok (.getfield 67, 3) := by decide +kernel
theorem dd_SF_force_7 : decode prog_1_method_16_code 7 = .ok (.astore_n 2, 1) := by decide +kernel
theorem dd_SF_force_8 : decode prog_1_method_16_code 8 = .ok (.iload_n 1, 1) := by decide +kernel
theorem dd_SF_force_9 : decode prog_1_method_16_code 9 = .ok (.iconst (-1), 1) := by decide +kernel
theorem dd_SF_force_10 : decode prog_1_method_16_code 10 = .ok (.if_icmp .eq 18, 3) := by decide +kernel
theorem dd_SF_force_13 : decode prog_1_method_16_code 13 = .ok (.aload_n 2, 1) := by decide +kernel
theorem dd_SF_force_14 : decode prog_1_method_16_code 14 = .ok (.iload_n 1, 1) := by decide +kernel
theorem dd_SF_force_15 : decode prog_1_method_16_code 15 = .ok (.invokevirtual 193, 3) := by decide +kernel
theorem dd_SF_force_18 : decode prog_1_method_16_code 18 = .ok (.ifnonnull 10, 3) := by decide +kernel
theorem dd_SF_force_21 : decode prog_1_method_16_code 21 = .ok (.aload_n 0, 1) := by decide +kernel
theorem dd_SF_force_22 : decode prog_1_method_16_code 22 = .ok (.bipush (-2), 2) := by decide +kernel
theorem dd_SF_force_24 : decode prog_1_method_16_code 24 = .ok (.invokevirtual 119, 3) := by decide +kernel
theorem dd_SF_force_27 : decode prog_1_method_16_code 27 = .ok (.ireturn, 1) := by decide +kernel
theorem dd_SF_force_28 : decode prog_1_method_16_code 28 = .ok (.aload_n 2, 1) := by decide +kernel
theorem dd_SF_force_29 : decode prog_1_method_16_code 29 = .ok (.getfield 197, 3) := by decide +kernel
theorem dd_SF_force_32 : decode prog_1_method_16_code 32 = .ok (.istore_n 3, 1) := by decide +kernel
theorem dd_SF_force_33 : decode prog_1_method_16_code 33 = .ok (.aload_n 2, 1) := by decide +kernel
theorem dd_SF_force_34 : decode prog_1_method_16_code 34 = .ok (.iload_n 1, 1) := by decide +kernel
theorem dd_SF_force_35 : decode prog_1_method_16_code 35 = .ok (.putfield 197, 3) := by decide +kernel
theorem dd_SF_force_38 : decode prog_1_method_16_code 38 = .ok (.aload_n 0, 1) := by decide +kernel
theorem dd_SF_force_39 : decode prog_1_method_16_code 39 = .ok (.iload_n 3, 1) := by decide +kernel
theorem dd_SF_force_40 : decode prog_1_method_16_code 40 = .ok (.invokevirtual 138, 3) := by decide +kernel
theorem dd_SF_force_43 : decode prog_1_method_16_code 43 = .ok (.ireturn, 1) := by decide +kernel
def jx_SF_force (p0 : Option Nat) (p1 : Int32) : sf_M (Int32) :=
  sf_bnd (sf_gR 0 0 p0) fun x1 =>
  sf_bnd (sf_gR 1 0 x1) fun x2 =>
  sf_or (α := Int32) (β := (Unit)) (
  if p1 = (-1 : Int32) then (
  sf_ret (.inr ())
  ) else (
  sf_bnd (sf_rc 4 x2 (jx_Office_lawOf x2 p1)) fun x4 =>
  if x4 = none then (
  sf_bnd (sf_rc 0 p0 (jx_SF_refused p0 (-2 : Int32))) fun x6 =>
  sf_ret (.inl x6)
  ) else (
  sf_ret (.inr ())
  )
  )
  ) (fun v7 =>
  sf_bnd (sf_gI 4 6 x2) fun x8 =>
  sf_bnd (sf_pI 4 6 x2 p1) fun _ =>
  sf_bnd (sf_rc 0 p0 (jx_SF_accepted p0 x8)) fun x9 =>
  sf_ret x9
  )
set_option maxRecDepth 20000 in
set_option maxHeartbeats 4000000 in
theorem ok_SF_force (p0 : Option Nat) (p1 : Int32) : sf_Ok ({ cls := "SplitFares", name := "force", desc := "(I)I" } : Jvm.MethodName) prog_1_method_16_code 4 (some .int) 1 [sf_rv p0, .int p1] (jx_SF_force p0 p1) (fun r => some (.int r)) := by
  refine sf_Ok.of (env := [some (sf_rv p0), some (.int p1), none, none]) (plainFor_of_name (by decide)) [false, false] (fun G => ⟨pk_r, pk_i, trivial⟩) (Nat.le_of_ble_eq_true rfl) rfl (fun X => ?_)
  unfold jx_SF_force
  refine fp_aload_n (i := 0) (r := p0) dd_SF_force_0 rfl rfl (fr_pc (pc' := 1) rfl ?_)
  refine fr_gR cl_0 0 (by decide) rfl sw_315 dd_SF_force_1 (fun x1 => fr_pc (pc' := 4) rfl ?_)
  refine fr_gR cl_1 0 (by decide) rfl sw_192 dd_SF_force_4 (fun x2 => fr_pc (pc' := 7) rfl ?_)
  refine fp_astore_n (i := 2) dd_SF_force_7 rfl (Nat.le_of_ble_eq_true rfl) (fun _ => c1_i rfl) (fr_to (pc' := 8) (env' := [some (sf_rv p0), some (.int p1), some (sf_rv x2), none]) (stk' := []) rfl rfl rfl ?_)
  refine fp_iload_n (i := 1) (x := p1) dd_SF_force_8 rfl rfl (fr_pc (pc' := 9) rfl ?_)
  refine fp_iconst (v := (-1 : Int32)) dd_SF_force_9 (by decide) (fr_pc (pc' := 10) rfl ?_)
  refine fr_or (l1 := (fun (v7 : (Unit)) => sf_p 28 [some (sf_rv p0), some (.int p1), some (sf_rv x2), none] [])) ?_ (fun v7 => ?_)
  · refine fr_icmp_eq (tgt := 28) dd_SF_force_10 rfl (fun _ => ?_) (fun _ => ?_)
    · exact fr_ret rfl
    · refine fr_pc (pc' := 13) rfl ?_
      refine fp_aload_n (i := 2) (r := x2) dd_SF_force_13 rfl rfl (fr_pc (pc' := 14) rfl ?_)
      refine fp_iload_n (i := 1) (x := p1) dd_SF_force_14 rfl rfl (fr_pc (pc' := 15) rfl ?_)
      refine fr_callV (stk := []) (As := [.int p1]) cl_4 (ok_Office_lawOf x2 p1) mt_Office_lawOf rfl rfl sw_865 sw_408 sw_409 (by decide) (Nat.le_of_ble_eq_true rfl) dd_SF_force_15 (fun x4 => fr_to (pc' := 18) (env' := [some (sf_rv p0), some (.int p1), some (sf_rv x2), none]) (stk' := [sf_rv x4]) rfl rfl rfl ?_)
      refine fr_ifnonnull (tgt := 28) dd_SF_force_18 rfl (fun _ => ?_) (fun _ => ?_)
      · refine fr_pc (pc' := 21) rfl ?_
        refine fp_aload_n (i := 0) (r := p0) dd_SF_force_21 rfl rfl (fr_pc (pc' := 22) rfl ?_)
        refine fp_bipush (v := (-2 : Int32)) dd_SF_force_22 (by decide) (fr_pc (pc' := 24) rfl ?_)
        refine fr_callV (stk := []) (As := [.int (-2 : Int32)]) cl_0 (ok_SF_refused p0 (-2 : Int32)) mt_SF_refused rfl rfl sw_374 sw_376 sp_1 (by decide) (Nat.le_of_ble_eq_true rfl) dd_SF_force_24 (fun x6 => fr_to (pc' := 27) (env' := [some (sf_rv p0), some (.int p1), some (sf_rv x2), none]) (stk' := [.int x6]) rfl rfl rfl ?_)
        exact fr_iret (v := x6) rfl rfl dd_SF_force_27
      · exact fr_ret rfl
  · refine fp_aload_n (i := 2) (r := x2) dd_SF_force_28 rfl rfl (fr_pc (pc' := 29) rfl ?_)
    refine fr_gI cl_4 6 (by decide) rfl sw_102 dd_SF_force_29 (fun x8 => fr_pc (pc' := 32) rfl ?_)
    refine fp_istore_n (i := 3) dd_SF_force_32 rfl (Nat.le_of_ble_eq_true rfl) (fun _ => c1_r rfl) (fr_to (pc' := 33) (env' := [some (sf_rv p0), some (.int p1), some (sf_rv x2), some (.int x8)]) (stk' := []) rfl rfl rfl ?_)
    refine fp_aload_n (i := 2) (r := x2) dd_SF_force_33 rfl rfl (fr_pc (pc' := 34) rfl ?_)
    refine fp_iload_n (i := 1) (x := p1) dd_SF_force_34 rfl rfl (fr_pc (pc' := 35) rfl ?_)
    refine fr_pI cl_4 6 (by decide) rfl sw_102 rfl ⟨rfl, rfl⟩ dd_SF_force_35 (fr_pc (pc' := 38) rfl ?_)
    refine fp_aload_n (i := 0) (r := p0) dd_SF_force_38 rfl rfl (fr_pc (pc' := 39) rfl ?_)
    refine fp_iload_n (i := 3) (x := x8) dd_SF_force_39 rfl rfl (fr_pc (pc' := 40) rfl ?_)
    refine fr_callV (stk := []) (As := [.int x8]) cl_0 (ok_SF_accepted p0 x8) mt_SF_accepted rfl rfl sw_378 sw_380 sp_2 (by decide) (Nat.le_of_ble_eq_true rfl) dd_SF_force_40 (fun x9 => fr_to (pc' := 43) (env' := [some (sf_rv p0), some (.int p1), some (sf_rv x2), some (.int x8)]) (stk' := [.int x9]) rfl rfl rfl ?_)
    exact fr_iret (v := x9) rfl rfl dd_SF_force_43
theorem mt_SF_buy : sf_Mt ({ cls := "SplitFares", name := "buy", desc := "(III)I" } : Jvm.MethodName) prog_1_method_17_code 4 (some .int) 3 := ⟨sw_869, sw_1, ⟨by decide, by decide, by decide +kernel⟩, by decide⟩
theorem dd_SF_buy_0 : decode prog_1_method_17_code 0 = .ok (.aload_n 0, 1) := by decide +kernel
theorem dd_SF_buy_1 : decode prog_1_method_17_code 1 = .ok (.aload_n 0, 1) := by decide +kernel
theorem dd_SF_buy_2 : decode prog_1_method_17_code 2 = .ok (.getfield 12, 3) := by decide +kernel
theorem dd_SF_buy_5 : decode prog_1_method_17_code 5 = .ok (.iload_n 1, 1) := by decide +kernel
theorem dd_SF_buy_6 : decode prog_1_method_17_code 6 = .ok (.iload_n 2, 1) := by decide +kernel
theorem dd_SF_buy_7 : decode prog_1_method_17_code 7 = .ok (.iload_n 3, 1) := by decide +kernel
theorem dd_SF_buy_8 : decode prog_1_method_17_code 8 = .ok (.invokevirtual 200, 3) := by decide +kernel
theorem dd_SF_buy_11 : decode prog_1_method_17_code 11 = .ok (.invokevirtual 75, 3) := by decide +kernel
theorem dd_SF_buy_14 : decode prog_1_method_17_code 14 = .ok (.ireturn, 1) := by decide +kernel
def jx_SF_buy (p0 : Option Nat) (p1 : Int32) (p2 : Int32) (p3 : Int32) : sf_M (Int32) :=
  sf_bnd (sf_gR 0 0 p0) fun x1 =>
  sf_bnd (sf_rc 1 x1 (jx_Desk_buyTicket x1 p1 p2 p3)) fun x2 =>
  sf_bnd (sf_rc 0 p0 (jx_SF_answered p0 x2)) fun x3 =>
  sf_ret x3
set_option maxRecDepth 20000 in
set_option maxHeartbeats 4000000 in
theorem ok_SF_buy (p0 : Option Nat) (p1 : Int32) (p2 : Int32) (p3 : Int32) : sf_Ok ({ cls := "SplitFares", name := "buy", desc := "(III)I" } : Jvm.MethodName) prog_1_method_17_code 4 (some .int) 5 [sf_rv p0, .int p1, .int p2, .int p3] (jx_SF_buy p0 p1 p2 p3) (fun r => some (.int r)) := by
  refine sf_Ok.of (env := [some (sf_rv p0), some (.int p1), some (.int p2), some (.int p3)]) (plainFor_of_name (by decide)) [false, false, false, false] (fun G => ⟨pk_r, pk_i, pk_i, pk_i, trivial⟩) (Nat.le_of_ble_eq_true rfl) rfl (fun X => ?_)
  unfold jx_SF_buy
  refine fp_aload_n (i := 0) (r := p0) dd_SF_buy_0 rfl rfl (fr_pc (pc' := 1) rfl ?_)
  refine fp_aload_n (i := 0) (r := p0) dd_SF_buy_1 rfl rfl (fr_pc (pc' := 2) rfl ?_)
  refine fr_gR cl_0 0 (by decide) rfl sw_315 dd_SF_buy_2 (fun x1 => fr_pc (pc' := 5) rfl ?_)
  refine fp_iload_n (i := 1) (x := p1) dd_SF_buy_5 rfl rfl (fr_pc (pc' := 6) rfl ?_)
  refine fp_iload_n (i := 2) (x := p2) dd_SF_buy_6 rfl rfl (fr_pc (pc' := 7) rfl ?_)
  refine fp_iload_n (i := 3) (x := p3) dd_SF_buy_7 rfl rfl (fr_pc (pc' := 8) rfl ?_)
  refine fr_callV (stk := [sf_rv p0]) (As := [.int p1, .int p2, .int p3]) cl_1 (ok_Desk_buyTicket x1 p1 p2 p3) mt_Desk_buyTicket rfl rfl sw_870 sw_774 sw_775 (by decide) (Nat.le_of_ble_eq_true rfl) dd_SF_buy_8 (fun x2 => fr_to (pc' := 11) (env' := [some (sf_rv p0), some (.int p1), some (.int p2), some (.int p3)]) (stk' := [.int x2, sf_rv p0]) rfl rfl rfl ?_)
  refine fr_callV (stk := []) (As := [.int x2]) cl_0 (ok_SF_answered p0 x2) mt_SF_answered rfl rfl sw_370 sw_372 sp_0 (by decide) (Nat.le_of_ble_eq_true rfl) dd_SF_buy_11 (fun x3 => fr_to (pc' := 14) (env' := [some (sf_rv p0), some (.int p1), some (.int p2), some (.int p3)]) (stk' := [.int x3]) rfl rfl rfl ?_)
  exact fr_iret (v := x3) rfl rfl dd_SF_buy_14
theorem mt_SF_ride : sf_Mt ({ cls := "SplitFares", name := "ride", desc := "(II)I" } : Jvm.MethodName) prog_1_method_18_code 3 (some .int) 2 := ⟨sw_874, sw_1, ⟨by decide, by decide, by decide +kernel⟩, by decide⟩
theorem dd_SF_ride_0 : decode prog_1_method_18_code 0 = .ok (.aload_n 0, 1) := by decide +kernel
theorem dd_SF_ride_1 : decode prog_1_method_18_code 1 = .ok (.aload_n 0, 1) := by decide +kernel
theorem dd_SF_ride_2 : decode prog_1_method_18_code 2 = .ok (.getfield 12, 3) := by decide +kernel
theorem dd_SF_ride_5 : decode prog_1_method_18_code 5 = .ok (.iload_n 1, 1) := by decide +kernel
theorem dd_SF_ride_6 : decode prog_1_method_18_code 6 = .ok (.iload_n 2, 1) := by decide +kernel
theorem dd_SF_ride_7 : decode prog_1_method_18_code 7 = .ok (.invokevirtual 203, 3) := by decide +kernel
theorem dd_SF_ride_10 : decode prog_1_method_18_code 10 = .ok (.invokevirtual 75, 3) := by decide +kernel
theorem dd_SF_ride_13 : decode prog_1_method_18_code 13 = .ok (.ireturn, 1) := by decide +kernel
def jx_SF_ride (p0 : Option Nat) (p1 : Int32) (p2 : Int32) : sf_M (Int32) :=
  sf_bnd (sf_gR 0 0 p0) fun x1 =>
  sf_bnd (sf_rc 1 x1 (jx_Desk_rideTrain x1 p1 p2)) fun x2 =>
  sf_bnd (sf_rc 0 p0 (jx_SF_answered p0 x2)) fun x3 =>
  sf_ret x3
set_option maxRecDepth 20000 in
set_option maxHeartbeats 4000000 in
theorem ok_SF_ride (p0 : Option Nat) (p1 : Int32) (p2 : Int32) : sf_Ok ({ cls := "SplitFares", name := "ride", desc := "(II)I" } : Jvm.MethodName) prog_1_method_18_code 3 (some .int) 5 [sf_rv p0, .int p1, .int p2] (jx_SF_ride p0 p1 p2) (fun r => some (.int r)) := by
  refine sf_Ok.of (env := [some (sf_rv p0), some (.int p1), some (.int p2)]) (plainFor_of_name (by decide)) [false, false, false] (fun G => ⟨pk_r, pk_i, pk_i, trivial⟩) (Nat.le_of_ble_eq_true rfl) rfl (fun X => ?_)
  unfold jx_SF_ride
  refine fp_aload_n (i := 0) (r := p0) dd_SF_ride_0 rfl rfl (fr_pc (pc' := 1) rfl ?_)
  refine fp_aload_n (i := 0) (r := p0) dd_SF_ride_1 rfl rfl (fr_pc (pc' := 2) rfl ?_)
  refine fr_gR cl_0 0 (by decide) rfl sw_315 dd_SF_ride_2 (fun x1 => fr_pc (pc' := 5) rfl ?_)
  refine fp_iload_n (i := 1) (x := p1) dd_SF_ride_5 rfl rfl (fr_pc (pc' := 6) rfl ?_)
  refine fp_iload_n (i := 2) (x := p2) dd_SF_ride_6 rfl rfl (fr_pc (pc' := 7) rfl ?_)
  refine fr_callV (stk := [sf_rv p0]) (As := [.int p1, .int p2]) cl_1 (ok_Desk_rideTrain x1 p1 p2) mt_Desk_rideTrain rfl rfl sw_875 sw_794 sw_795 (by decide) (Nat.le_of_ble_eq_true rfl) dd_SF_ride_7 (fun x2 => fr_to (pc' := 10) (env' := [some (sf_rv p0), some (.int p1), some (.int p2)]) (stk' := [.int x2, sf_rv p0]) rfl rfl rfl ?_)
  refine fr_callV (stk := []) (As := [.int x2]) cl_0 (ok_SF_answered p0 x2) mt_SF_answered rfl rfl sw_370 sw_372 sp_0 (by decide) (Nat.le_of_ble_eq_true rfl) dd_SF_ride_10 (fun x3 => fr_to (pc' := 13) (env' := [some (sf_rv p0), some (.int p1), some (.int p2)]) (stk' := [.int x3]) rfl rfl rfl ?_)
  exact fr_iret (v := x3) rfl rfl dd_SF_ride_13
theorem mt_SF_save : sf_Mt ({ cls := "SplitFares", name := "save", desc := "(I)I" } : Jvm.MethodName) prog_1_method_19_code 2 (some .int) 1 := ⟨sw_879, sw_1, ⟨by decide, by decide, by decide +kernel⟩, by decide⟩
theorem dd_SF_save_0 : decode prog_1_method_19_code 0 = .ok (.aload_n 0, 1) := by decide +kernel
theorem dd_SF_save_1 : decode prog_1_method_19_code 1 = .ok (.aload_n 0, 1) := by decide +kernel
theorem dd_SF_save_2 : decode prog_1_method_19_code 2 = .ok (.getfield 12, 3) := by decide +kernel
theorem dd_SF_save_5 : decode prog_1_method_19_code 5 = .ok (.iload_n 1, 1) := by decide +kernel
theorem dd_SF_save_6 : decode prog_1_method_19_code 6 = .ok (.invokevirtual 207, 3) := by decide +kernel
theorem dd_SF_save_9 : decode prog_1_method_19_code 9 = .ok (.invokevirtual 75, 3) := by decide +kernel
theorem dd_SF_save_12 : decode prog_1_method_19_code 12 = .ok (.ireturn, 1) := by decide +kernel
def jx_SF_save (p0 : Option Nat) (p1 : Int32) : sf_M (Int32) :=
  sf_bnd (sf_gR 0 0 p0) fun x1 =>
  sf_bnd (sf_rc 1 x1 (jx_Desk_savePence x1 p1)) fun x2 =>
  sf_bnd (sf_rc 0 p0 (jx_SF_answered p0 x2)) fun x3 =>
  sf_ret x3
set_option maxRecDepth 20000 in
set_option maxHeartbeats 4000000 in
theorem ok_SF_save (p0 : Option Nat) (p1 : Int32) : sf_Ok ({ cls := "SplitFares", name := "save", desc := "(I)I" } : Jvm.MethodName) prog_1_method_19_code 2 (some .int) 4 [sf_rv p0, .int p1] (jx_SF_save p0 p1) (fun r => some (.int r)) := by
  refine sf_Ok.of (env := [some (sf_rv p0), some (.int p1)]) (plainFor_of_name (by decide)) [false, false] (fun G => ⟨pk_r, pk_i, trivial⟩) (Nat.le_of_ble_eq_true rfl) rfl (fun X => ?_)
  unfold jx_SF_save
  refine fp_aload_n (i := 0) (r := p0) dd_SF_save_0 rfl rfl (fr_pc (pc' := 1) rfl ?_)
  refine fp_aload_n (i := 0) (r := p0) dd_SF_save_1 rfl rfl (fr_pc (pc' := 2) rfl ?_)
  refine fr_gR cl_0 0 (by decide) rfl sw_315 dd_SF_save_2 (fun x1 => fr_pc (pc' := 5) rfl ?_)
  refine fp_iload_n (i := 1) (x := p1) dd_SF_save_5 rfl rfl (fr_pc (pc' := 6) rfl ?_)
  refine fr_callV (stk := [sf_rv p0]) (As := [.int p1]) cl_1 (ok_Desk_savePence x1 p1) mt_Desk_savePence rfl rfl sw_880 sw_836 sw_837 (by decide) (Nat.le_of_ble_eq_true rfl) dd_SF_save_6 (fun x2 => fr_to (pc' := 9) (env' := [some (sf_rv p0), some (.int p1)]) (stk' := [.int x2, sf_rv p0]) rfl rfl rfl ?_)
  refine fr_callV (stk := []) (As := [.int x2]) cl_0 (ok_SF_answered p0 x2) mt_SF_answered rfl rfl sw_370 sw_372 sp_0 (by decide) (Nat.le_of_ble_eq_true rfl) dd_SF_save_9 (fun x3 => fr_to (pc' := 12) (env' := [some (sf_rv p0), some (.int p1)]) (stk' := [.int x3]) rfl rfl rfl ?_)
  exact fr_iret (v := x3) rfl rfl dd_SF_save_12
theorem mt_SF_pass : sf_Mt ({ cls := "SplitFares", name := "pass", desc := "()I" } : Jvm.MethodName) prog_1_method_20_code 1 (some .int) 0 := ⟨sw_884, sw_1, ⟨by decide, by decide, by decide +kernel⟩, by decide⟩
theorem dd_SF_pass_0 : decode prog_1_method_20_code 0 = .ok (.aload_n 0, 1) := by decide +kernel
theorem dd_SF_pass_1 : decode prog_1_method_20_code 1 = .ok (.aload_n 0, 1) := by decide +kernel
theorem dd_SF_pass_2 : decode prog_1_method_20_code 2 = .ok (.getfield 12, 3) := by decide +kernel
theorem dd_SF_pass_5 : decode prog_1_method_20_code 5 = .ok (.invokevirtual 210, 3) := by decide +kernel
theorem dd_SF_pass_8 : decode prog_1_method_20_code 8 = .ok (.invokevirtual 75, 3) := by decide +kernel
theorem dd_SF_pass_11 : decode prog_1_method_20_code 11 = .ok (.ireturn, 1) := by decide +kernel
def jx_SF_pass (p0 : Option Nat) : sf_M (Int32) :=
  sf_bnd (sf_gR 0 0 p0) fun x1 =>
  sf_bnd (sf_rc 1 x1 (jx_Desk_passDay x1)) fun x2 =>
  sf_bnd (sf_rc 0 p0 (jx_SF_answered p0 x2)) fun x3 =>
  sf_ret x3
set_option maxRecDepth 20000 in
set_option maxHeartbeats 4000000 in
theorem ok_SF_pass (p0 : Option Nat) : sf_Ok ({ cls := "SplitFares", name := "pass", desc := "()I" } : Jvm.MethodName) prog_1_method_20_code 1 (some .int) 4 [sf_rv p0] (jx_SF_pass p0) (fun r => some (.int r)) := by
  refine sf_Ok.of (env := [some (sf_rv p0)]) (plainFor_of_name (by decide)) [false] (fun G => ⟨pk_r, trivial⟩) (Nat.le_of_ble_eq_true rfl) rfl (fun X => ?_)
  unfold jx_SF_pass
  refine fp_aload_n (i := 0) (r := p0) dd_SF_pass_0 rfl rfl (fr_pc (pc' := 1) rfl ?_)
  refine fp_aload_n (i := 0) (r := p0) dd_SF_pass_1 rfl rfl (fr_pc (pc' := 2) rfl ?_)
  refine fr_gR cl_0 0 (by decide) rfl sw_315 dd_SF_pass_2 (fun x1 => fr_pc (pc' := 5) rfl ?_)
  refine fr_callV (stk := [sf_rv p0]) (As := []) cl_1 (ok_Desk_passDay x1) mt_Desk_passDay rfl rfl sw_885 sw_842 sw_843 (by decide) (Nat.le_of_ble_eq_true rfl) dd_SF_pass_5 (fun x2 => fr_to (pc' := 8) (env' := [some (sf_rv p0)]) (stk' := [.int x2, sf_rv p0]) rfl rfl rfl ?_)
  refine fr_callV (stk := []) (As := [.int x2]) cl_0 (ok_SF_answered p0 x2) mt_SF_answered rfl rfl sw_370 sw_372 sp_0 (by decide) (Nat.le_of_ble_eq_true rfl) dd_SF_pass_8 (fun x3 => fr_to (pc' := 11) (env' := [some (sf_rv p0)]) (stk' := [.int x3]) rfl rfl rfl ?_)
  exact fr_iret (v := x3) rfl rfl dd_SF_pass_11
theorem mt_SF_undo : sf_Mt ({ cls := "SplitFares", name := "undo", desc := "()I" } : Jvm.MethodName) prog_1_method_21_code 2 (some .int) 0 := ⟨sw_889, sw_1, ⟨by decide, by decide, by decide +kernel⟩, by decide⟩
theorem dd_SF_undo_0 : decode prog_1_method_21_code 0 = .ok (.aload_n 0, 1) := by decide +kernel
theorem dd_SF_undo_1 : decode prog_1_method_21_code 1 = .ok (.getfield 12, 3) := by decide +kernel
theorem dd_SF_undo_4 : decode prog_1_method_21_code 4 = .ok (.getfield 129, 3) := by decide +kernel
theorem dd_SF_undo_7 : decode prog_1_method_21_code 7 = .ok (.aload_n 0, 1) := by decide +kernel
theorem dd_SF_undo_8 : decode prog_1_method_21_code 8 = .ok (.getfield 12, 3) := by decide +kernel
theorem dd_SF_undo_11 : decode prog_1_method_21_code 11 = .ok (.getfield 67, 3) := by decide +kernel
theorem dd_SF_undo_14 : decode prog_1_method_21_code 14 = .ok (.getfield 107, 3) := by decide +kernel
theorem dd_SF_undo_17 : decode prog_1_method_21_code 17 = .ok (.invokevirtual 214, 3) := by decide +kernel
theorem dd_SF_undo_20 : decode prog_1_method_21_code 20 = .ok (.istore_n 1, 1) := by decide +kernel
theorem dd_SF_undo_21 : decode prog_1_method_21_code 21 = .ok (.iload_n 1, 1) := by decide +kernel
theorem dd_SF_undo_22 : decode prog_1_method_21_code 22 = .ok (.ifCond .ge 12, 3) := by decide +kernel
theorem dd_SF_undo_25 : decode prog_1_method_21_code 25 = .ok (.aload_n 0, 1) := by decide +kernel
theorem dd_SF_undo_26 : decode prog_1_method_21_code 26 = .ok (.bipush (-3), 2) := by decide +kernel
theorem dd_SF_undo_28 : decode prog_1_method_21_code 28 = .ok (.invokevirtual 119, 3) := by decide +kernel
theorem dd_SF_undo_31 : decode prog_1_method_21_code 31 = .ok (.goto 8, 3) := by decide +kernel
theorem dd_SF_undo_34 : decode prog_1_method_21_code 34 = .ok (.aload_n 0, 1) := by decide +kernel
theorem dd_SF_undo_35 : decode prog_1_method_21_code 35 = .ok (.iload_n 1, 1) := by decide +kernel
theorem dd_SF_undo_36 : decode prog_1_method_21_code 36 = .ok (.invokevirtual 138, 3) := by decide +kernel
theorem dd_SF_undo_39 : decode prog_1_method_21_code 39 = .ok (.ireturn, 1) := by decide +kernel
def jx_SF_undo (p0 : Option Nat) : sf_M (Int32) :=
  sf_bnd (sf_gR 0 0 p0) fun x1 =>
  sf_bnd (sf_gR 1 2 x1) fun x2 =>
  sf_bnd (sf_gR 0 0 p0) fun x3 =>
  sf_bnd (sf_gR 1 0 x3) fun x4 =>
  sf_bnd (sf_gR 4 0 x4) fun x5 =>
  sf_bnd (sf_rc 2 x2 (jx_Log_pop x2 x5)) fun x6 =>
  if 0 ≤ x6 then (
  sf_bnd (sf_rc 0 p0 (jx_SF_accepted p0 x6)) fun x8 =>
  sf_ret x8
  ) else (
  sf_bnd (sf_rc 0 p0 (jx_SF_refused p0 (-3 : Int32))) fun x9 =>
  sf_ret x9
  )
set_option maxRecDepth 20000 in
set_option maxHeartbeats 4000000 in
theorem ok_SF_undo (p0 : Option Nat) : sf_Ok ({ cls := "SplitFares", name := "undo", desc := "()I" } : Jvm.MethodName) prog_1_method_21_code 2 (some .int) 3 [sf_rv p0] (jx_SF_undo p0) (fun r => some (.int r)) := by
  refine sf_Ok.of (env := [some (sf_rv p0), none]) (plainFor_of_name (by decide)) [false] (fun G => ⟨pk_r, trivial⟩) (Nat.le_of_ble_eq_true rfl) rfl (fun X => ?_)
  unfold jx_SF_undo
  refine fp_aload_n (i := 0) (r := p0) dd_SF_undo_0 rfl rfl (fr_pc (pc' := 1) rfl ?_)
  refine fr_gR cl_0 0 (by decide) rfl sw_315 dd_SF_undo_1 (fun x1 => fr_pc (pc' := 4) rfl ?_)
  refine fr_gR cl_1 2 (by decide) rfl sw_196 dd_SF_undo_4 (fun x2 => fr_pc (pc' := 7) rfl ?_)
  refine fp_aload_n (i := 0) (r := p0) dd_SF_undo_7 rfl rfl (fr_pc (pc' := 8) rfl ?_)
  refine fr_gR cl_0 0 (by decide) rfl sw_315 dd_SF_undo_8 (fun x3 => fr_pc (pc' := 11) rfl ?_)
  refine fr_gR cl_1 0 (by decide) rfl sw_192 dd_SF_undo_11 (fun x4 => fr_pc (pc' := 14) rfl ?_)
  refine fr_gR cl_4 0 (by decide) rfl sw_88 dd_SF_undo_14 (fun x5 => fr_pc (pc' := 17) rfl ?_)
  refine fr_callV (stk := []) (As := [sf_rv x5]) cl_2 (ok_Log_pop x2 x5) mt_Log_pop rfl rfl sw_890 sw_891 sw_892 (by decide) (Nat.le_of_ble_eq_true rfl) dd_SF_undo_17 (fun x6 => fr_to (pc' := 20) (env' := [some (sf_rv p0), none]) (stk' := [.int x6]) rfl rfl rfl ?_)
  refine fp_istore_n (i := 1) dd_SF_undo_20 rfl (Nat.le_of_ble_eq_true rfl) (fun _ => c1_r rfl) (fr_to (pc' := 21) (env' := [some (sf_rv p0), some (.int x6)]) (stk' := []) rfl rfl rfl ?_)
  refine fp_iload_n (i := 1) (x := x6) dd_SF_undo_21 rfl rfl (fr_pc (pc' := 22) rfl ?_)
  refine fr_if_ge (tgt := 34) dd_SF_undo_22 rfl (fun _ => ?_) (fun _ => ?_)
  · refine fp_aload_n (i := 0) (r := p0) dd_SF_undo_34 rfl rfl (fr_pc (pc' := 35) rfl ?_)
    refine fp_iload_n (i := 1) (x := x6) dd_SF_undo_35 rfl rfl (fr_pc (pc' := 36) rfl ?_)
    refine fr_callV (stk := []) (As := [.int x6]) cl_0 (ok_SF_accepted p0 x6) mt_SF_accepted rfl rfl sw_378 sw_380 sp_2 (by decide) (Nat.le_of_ble_eq_true rfl) dd_SF_undo_36 (fun x8 => fr_to (pc' := 39) (env' := [some (sf_rv p0), some (.int x6)]) (stk' := [.int x8]) rfl rfl rfl ?_)
    exact fr_iret (v := x8) rfl rfl dd_SF_undo_39
  · refine fr_pc (pc' := 25) rfl ?_
    refine fp_aload_n (i := 0) (r := p0) dd_SF_undo_25 rfl rfl (fr_pc (pc' := 26) rfl ?_)
    refine fp_bipush (v := (-3 : Int32)) dd_SF_undo_26 (by decide) (fr_pc (pc' := 28) rfl ?_)
    refine fr_callV (stk := []) (As := [.int (-3 : Int32)]) cl_0 (ok_SF_refused p0 (-3 : Int32)) mt_SF_refused rfl rfl sw_374 sw_376 sp_1 (by decide) (Nat.le_of_ble_eq_true rfl) dd_SF_undo_28 (fun x9 => fr_to (pc' := 31) (env' := [some (sf_rv p0), some (.int x6)]) (stk' := [.int x9]) rfl rfl rfl ?_)
    refine fp_goto (tgt := 39) dd_SF_undo_31 rfl ?_
    exact fr_iret (v := x9) rfl rfl dd_SF_undo_39
theorem mt_SF_leastOn : sf_Mt ({ cls := "SplitFares", name := "leastOn", desc := "(IIII)I" } : Jvm.MethodName) prog_1_method_51_code 5 (some .int) 4 := ⟨sw_901, sw_1, ⟨by decide, by decide, by decide +kernel⟩, by decide⟩
theorem dd_SF_leastOn_0 : decode prog_1_method_51_code 0 = .ok (.iload_n 2, 1) := by decide +kernel
theorem dd_SF_leastOn_1 : decode prog_1_method_51_code 1 = .ok (.iload_n 3, 1) := by decide +kernel
theorem dd_SF_leastOn_2 : decode prog_1_method_51_code 2 = .ok (.invokestatic 103, 3) := by decide +kernel
theorem dd_SF_leastOn_5 : decode prog_1_method_51_code 5 = .ok (.ifCond .ne 5, 3) := by decide +kernel
theorem dd_SF_leastOn_8 : decode prog_1_method_51_code 8 = .ok (.iconst (-1), 1) := by decide +kernel
theorem dd_SF_leastOn_9 : decode prog_1_method_51_code 9 = .ok (.ireturn, 1) := by decide +kernel
theorem dd_SF_leastOn_10 : decode prog_1_method_51_code 10 = .ok (.aload_n 0, 1) := by decide +kernel
theorem dd_SF_leastOn_11 : decode prog_1_method_51_code 11 = .ok (.getfield 12, 3) := by decide +kernel
theorem dd_SF_leastOn_14 : decode prog_1_method_51_code 14 = .ok (.getfield 222, 3) := by decide +kernel
theorem dd_SF_leastOn_17 : decode prog_1_method_51_code 17 = .ok (.aload_n 0, 1) := by decide +kernel
theorem dd_SF_leastOn_18 : decode prog_1_method_51_code 18 = .ok (.getfield 12, 3) := by decide +kernel
theorem dd_SF_leastOn_21 : decode prog_1_method_51_code 21 = .ok (.getfield 67, 3) := by decide +kernel
theorem dd_SF_leastOn_24 : decode prog_1_method_51_code 24 = .ok (.iload_n 1, 1) := by decide +kernel
theorem dd_SF_leastOn_25 : decode prog_1_method_51_code 25 = .ok (.invokevirtual 231, 3) := by decide +kernel
theorem dd_SF_leastOn_28 : decode prog_1_method_51_code 28 = .ok (.aload_n 0, 1) := by decide +kernel
theorem dd_SF_leastOn_29 : decode prog_1_method_51_code 29 = .ok (.getfield 12, 3) := by decide +kernel
theorem dd_SF_leastOn_32 : decode prog_1_method_51_code 32 = .ok (.getfield 222, 3) := by decide +kernel
theorem dd_SF_leastOn_35 : decode prog_1_method_51_code 35 = .ok (.iload_n 2, 1) := by decide +kernel
theorem dd_SF_leastOn_36 : decode prog_1_method_51_code 36 = .ok (.iload_n 3, 1) := by decide +kernel
theorem dd_SF_leastOn_37 : decode prog_1_method_51_code 37 = .ok (.iload 4, 2) := by decide +kernel
theorem dd_SF_leastOn_39 : decode prog_1_method_51_code 39 = .ok (.invokevirtual 235, 3) := by decide +kernel
theorem dd_SF_leastOn_42 : decode prog_1_method_51_code 42 = .ok (.ireturn, 1) := by decide +kernel
def jx_SF_leastOn (p0 : Option Nat) (p1 : Int32) (p2 : Int32) (p3 : Int32) (p4 : Int32) : sf_M (Int32) :=
  sf_bnd (jx_SF_isLeg p2 p3) fun x1 =>
  if x1 = 0 then (
  sf_ret (-1 : Int32)
  ) else (
  sf_bnd (sf_gR 0 0 p0) fun x3 =>
  sf_bnd (sf_gR 1 1 x3) fun x4 =>
  sf_bnd (sf_gR 0 0 p0) fun x5 =>
  sf_bnd (sf_gR 1 0 x5) fun x6 =>
  sf_bnd (sf_rc 10 x4 (jx_Ways_fillWithSingles x4 x6 p1)) fun _ =>
  sf_bnd (sf_gR 0 0 p0) fun x8 =>
  sf_bnd (sf_gR 1 1 x8) fun x9 =>
  sf_bnd (sf_rc 10 x9 (jx_Ways_least x9 p2 p3 p4)) fun x10 =>
  sf_ret x10
  )
set_option maxRecDepth 20000 in
set_option maxHeartbeats 4000000 in
theorem ok_SF_leastOn (p0 : Option Nat) (p1 : Int32) (p2 : Int32) (p3 : Int32) (p4 : Int32) : sf_Ok ({ cls := "SplitFares", name := "leastOn", desc := "(IIII)I" } : Jvm.MethodName) prog_1_method_51_code 5 (some .int) 5 [sf_rv p0, .int p1, .int p2, .int p3, .int p4] (jx_SF_leastOn p0 p1 p2 p3 p4) (fun r => some (.int r)) := by
  refine sf_Ok.of (env := [some (sf_rv p0), some (.int p1), some (.int p2), some (.int p3), some (.int p4)]) (plainFor_of_name (by decide)) [false, false, false, false, false] (fun G => ⟨pk_r, pk_i, pk_i, pk_i, pk_i, trivial⟩) (Nat.le_of_ble_eq_true rfl) rfl (fun X => ?_)
  unfold jx_SF_leastOn
  refine fp_iload_n (i := 2) (x := p2) dd_SF_leastOn_0 rfl rfl (fr_pc (pc' := 1) rfl ?_)
  refine fp_iload_n (i := 3) (x := p3) dd_SF_leastOn_1 rfl rfl (fr_pc (pc' := 2) rfl ?_)
  refine fr_callS (stk := []) (ok_SF_isLeg p2 p3) mt_SF_isLeg rfl rfl sw_397 sw_398 (by decide) (Nat.le_of_ble_eq_true rfl) dd_SF_leastOn_2 (fun x1 => fr_to (pc' := 5) (env' := [some (sf_rv p0), some (.int p1), some (.int p2), some (.int p3), some (.int p4)]) (stk' := [.int x1]) rfl rfl rfl ?_)
  refine fr_if_ne (tgt := 10) dd_SF_leastOn_5 rfl (fun _ => ?_) (fun _ => ?_)
  · refine fr_pc (pc' := 8) rfl ?_
    refine fp_iconst (v := (-1 : Int32)) dd_SF_leastOn_8 (by decide) (fr_pc (pc' := 9) rfl ?_)
    exact fr_iret (v := (-1 : Int32)) rfl rfl dd_SF_leastOn_9
  · refine fp_aload_n (i := 0) (r := p0) dd_SF_leastOn_10 rfl rfl (fr_pc (pc' := 11) rfl ?_)
    refine fr_gR cl_0 0 (by decide) rfl sw_315 dd_SF_leastOn_11 (fun x3 => fr_pc (pc' := 14) rfl ?_)
    refine fr_gR cl_1 1 (by decide) rfl sw_194 dd_SF_leastOn_14 (fun x4 => fr_pc (pc' := 17) rfl ?_)
    refine fp_aload_n (i := 0) (r := p0) dd_SF_leastOn_17 rfl rfl (fr_pc (pc' := 18) rfl ?_)
    refine fr_gR cl_0 0 (by decide) rfl sw_315 dd_SF_leastOn_18 (fun x5 => fr_pc (pc' := 21) rfl ?_)
    refine fr_gR cl_1 0 (by decide) rfl sw_192 dd_SF_leastOn_21 (fun x6 => fr_pc (pc' := 24) rfl ?_)
    refine fp_iload_n (i := 1) (x := p1) dd_SF_leastOn_24 rfl rfl (fr_pc (pc' := 25) rfl ?_)
    refine fr_callV (stk := []) (As := [sf_rv x6, .int p1]) cl_10 (ok_Ways_fillWithSingles x4 x6 p1) mt_Ways_fillWithSingles rfl rfl sw_902 sw_903 sw_904 (by decide) (Nat.le_of_ble_eq_true rfl) dd_SF_leastOn_25 (fun u7 => fr_to (pc' := 28) (env' := [some (sf_rv p0), some (.int p1), some (.int p2), some (.int p3), some (.int p4)]) (stk' := []) rfl rfl rfl ?_)
    refine fp_aload_n (i := 0) (r := p0) dd_SF_leastOn_28 rfl rfl (fr_pc (pc' := 29) rfl ?_)
    refine fr_gR cl_0 0 (by decide) rfl sw_315 dd_SF_leastOn_29 (fun x8 => fr_pc (pc' := 32) rfl ?_)
    refine fr_gR cl_1 1 (by decide) rfl sw_194 dd_SF_leastOn_32 (fun x9 => fr_pc (pc' := 35) rfl ?_)
    refine fp_iload_n (i := 2) (x := p2) dd_SF_leastOn_35 rfl rfl (fr_pc (pc' := 36) rfl ?_)
    refine fp_iload_n (i := 3) (x := p3) dd_SF_leastOn_36 rfl rfl (fr_pc (pc' := 37) rfl ?_)
    refine fp_iload (i := 4) (x := p4) dd_SF_leastOn_37 rfl (fr_pc (pc' := 39) rfl ?_)
    refine fr_callV (stk := []) (As := [.int p2, .int p3, .int p4]) cl_10 (ok_Ways_least x9 p2 p3 p4) mt_Ways_least rfl rfl sw_907 sw_810 sw_811 (by decide) (Nat.le_of_ble_eq_true rfl) dd_SF_leastOn_39 (fun x10 => fr_to (pc' := 42) (env' := [some (sf_rv p0), some (.int p1), some (.int p2), some (.int p3), some (.int p4)]) (stk' := [.int x10]) rfl rfl rfl ?_)
    exact fr_iret (v := x10) rfl rfl dd_SF_leastOn_42
