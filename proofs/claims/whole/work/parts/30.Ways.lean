/-! Ways: its methods as plain functions, and that the bytecode runs them (printed by program). -/
theorem mt_Ways_init : sf_Mt ({ cls := "SplitFares$Ways", name := "<init>", desc := "()V" } : Jvm.MethodName) prog_11_method_1_code 1 none 0 := ⟨sw_146, sw_6, ⟨by decide, by decide, by decide +kernel⟩, by decide⟩
theorem dd_Ways_init_0 : decode prog_11_method_1_code 0 = .ok (.aload_n 0, 1) := by decide +kernel
theorem dd_Ways_init_1 : decode prog_11_method_1_code 1 = .ok (.invokespecial 3, 3) := by decide +kernel
theorem dd_Ways_init_4 : decode prog_11_method_1_code 4 = .ok (.aload_n 0, 1) := by decide +kernel
theorem dd_Ways_init_5 : decode prog_11_method_1_code 5 = .ok (.bipush 64, 2) := by decide +kernel
theorem dd_Ways_init_7 : decode prog_11_method_1_code 7 = .ok (.newarray .int, 2) := by decide +kernel
theorem dd_Ways_init_9 : decode prog_11_method_1_code 9 = .ok (.putfield 9, 3) := by decide +kernel
theorem dd_Ways_init_12 : decode prog_11_method_1_code 12 = .ok (.aload_n 0, 1) := by decide +kernel
theorem dd_Ways_init_13 : decode prog_11_method_1_code 13 = .ok (.bipush 64, 2) := by decide +kernel
theorem dd_Ways_init_15 : decode prog_11_method_1_code 15 = .ok (.newarray .int, 2) := by decide +kernel
theorem dd_Ways_init_17 : decode prog_11_method_1_code 17 = .ok (.putfield 15, 3) := by decide +kernel
theorem dd_Ways_init_20 : decode prog_11_method_1_code 20 = .ok (.aload_n 0, 1) := by decide +kernel
theorem dd_Ways_init_21 : decode prog_11_method_1_code 21 = .ok (.bipush 64, 2) := by decide +kernel
theorem dd_Ways_init_23 : decode prog_11_method_1_code 23 = .ok (.newarray .int, 2) := by decide +kernel
theorem dd_Ways_init_25 : decode prog_11_method_1_code 25 = .ok (.putfield 18, 3) := by decide +kernel
theorem dd_Ways_init_28 : decode prog_11_method_1_code 28 = .ok (.aload_n 0, 1) := by decide +kernel
theorem dd_Ways_init_29 : decode prog_11_method_1_code 29 = .ok (.bipush 8, 2) := by decide +kernel
theorem dd_Ways_init_31 : decode prog_11_method_1_code 31 = .ok (.newarray .int, 2) := by decide +kernel
theorem dd_Ways_init_33 : decode prog_11_method_1_code 33 = .ok (.putfield 21, 3) := by decide +kernel
theorem dd_Ways_init_36 : decode prog_11_method_1_code 36 = .ok (.aload_n 0, 1) := by decide +kernel
theorem dd_Ways_init_37 : decode prog_11_method_1_code 37 = .ok (.bipush 8, 2) := by decide +kernel
theorem dd_Ways_init_39 : decode prog_11_method_1_code 39 = .ok (.newarray .int, 2) := by decide +kernel
theorem dd_Ways_init_41 : decode prog_11_method_1_code 41 = .ok (.putfield 24, 3) := by decide +kernel
theorem dd_Ways_init_44 : decode prog_11_method_1_code 44 = .ok (.return_, 1) := by decide +kernel
def jx_Ways_init (p0 : Option Nat) : sf_M (Unit) :=
  sf_bnd (sf_rc 10 p0 (sf_ret ())) fun _ =>
  sf_bnd (sf_newA 0 (64 : Int32)) fun x1 =>
  sf_bnd (sf_pR 10 0 p0 x1) fun _ =>
  sf_bnd (sf_newA 0 (64 : Int32)) fun x2 =>
  sf_bnd (sf_pR 10 1 p0 x2) fun _ =>
  sf_bnd (sf_newA 0 (64 : Int32)) fun x3 =>
  sf_bnd (sf_pR 10 2 p0 x3) fun _ =>
  sf_bnd (sf_newA 0 (8 : Int32)) fun x4 =>
  sf_bnd (sf_pR 10 3 p0 x4) fun _ =>
  sf_bnd (sf_newA 0 (8 : Int32)) fun x5 =>
  sf_bnd (sf_pR 10 4 p0 x5) fun _ =>
  sf_ret ()
set_option maxRecDepth 20000 in
set_option maxHeartbeats 4000000 in
theorem ok_Ways_init (p0 : Option Nat) : sf_Ok ({ cls := "SplitFares$Ways", name := "<init>", desc := "()V" } : Jvm.MethodName) prog_11_method_1_code 1 none 1 [sf_rv p0] (jx_Ways_init p0) (fun _ => none) := by
  refine sf_Ok.of (env := [some (sf_rv p0)]) (plainFor_of_name (by decide)) [false] (fun G => ⟨pk_r, trivial⟩) (Nat.le_of_ble_eq_true rfl) rfl (fun X => ?_)
  unfold jx_Ways_init
  refine fp_aload_n (i := 0) (r := p0) dd_Ways_init_0 rfl rfl (fr_pc (pc' := 1) rfl ?_)
  refine fr_obj (ci := 10) (by decide) sw_147 sw_27 sw_28 (Nat.le_of_ble_eq_true rfl) (Nat.le_of_ble_eq_true rfl) dd_Ways_init_1 (fr_pc (pc' := 4) rfl ?_)
  refine fp_aload_n (i := 0) (r := p0) dd_Ways_init_4 rfl rfl (fr_pc (pc' := 5) rfl ?_)
  refine fp_bipush (v := (64 : Int32)) dd_Ways_init_5 (by decide) (fr_pc (pc' := 7) rfl ?_)
  refine fr_newI dd_Ways_init_7 (fun x1 => fr_pc (pc' := 9) rfl ?_)
  refine fr_pRg cl_10 0 (by decide) rfl sw_148 (Or.inr ⟨rfl, rfl, rfl⟩) (Or.inr ⟨_, rfl⟩) dd_Ways_init_9 (fr_pc (pc' := 12) rfl ?_)
  refine fp_aload_n (i := 0) (r := p0) dd_Ways_init_12 rfl rfl (fr_pc (pc' := 13) rfl ?_)
  refine fp_bipush (v := (64 : Int32)) dd_Ways_init_13 (by decide) (fr_pc (pc' := 15) rfl ?_)
  refine fr_newI dd_Ways_init_15 (fun x2 => fr_pc (pc' := 17) rfl ?_)
  refine fr_pRg cl_10 1 (by decide) rfl sw_149 (Or.inr ⟨rfl, rfl, rfl⟩) (Or.inr ⟨_, rfl⟩) dd_Ways_init_17 (fr_pc (pc' := 20) rfl ?_)
  refine fp_aload_n (i := 0) (r := p0) dd_Ways_init_20 rfl rfl (fr_pc (pc' := 21) rfl ?_)
  refine fp_bipush (v := (64 : Int32)) dd_Ways_init_21 (by decide) (fr_pc (pc' := 23) rfl ?_)
  refine fr_newI dd_Ways_init_23 (fun x3 => fr_pc (pc' := 25) rfl ?_)
  refine fr_pRg cl_10 2 (by decide) rfl sw_150 (Or.inr ⟨rfl, rfl, rfl⟩) (Or.inr ⟨_, rfl⟩) dd_Ways_init_25 (fr_pc (pc' := 28) rfl ?_)
  refine fp_aload_n (i := 0) (r := p0) dd_Ways_init_28 rfl rfl (fr_pc (pc' := 29) rfl ?_)
  refine fp_bipush (v := (8 : Int32)) dd_Ways_init_29 (by decide) (fr_pc (pc' := 31) rfl ?_)
  refine fr_newI dd_Ways_init_31 (fun x4 => fr_pc (pc' := 33) rfl ?_)
  refine fr_pRg cl_10 3 (by decide) rfl sw_151 (Or.inr ⟨rfl, rfl, rfl⟩) (Or.inr ⟨_, rfl⟩) dd_Ways_init_33 (fr_pc (pc' := 36) rfl ?_)
  refine fp_aload_n (i := 0) (r := p0) dd_Ways_init_36 rfl rfl (fr_pc (pc' := 37) rfl ?_)
  refine fp_bipush (v := (8 : Int32)) dd_Ways_init_37 (by decide) (fr_pc (pc' := 39) rfl ?_)
  refine fr_newI dd_Ways_init_39 (fun x5 => fr_pc (pc' := 41) rfl ?_)
  refine fr_pRg cl_10 4 (by decide) rfl sw_152 (Or.inr ⟨rfl, rfl, rfl⟩) (Or.inr ⟨_, rfl⟩) dd_Ways_init_41 (fr_pc (pc' := 44) rfl ?_)
  exact fr_vret rfl rfl dd_Ways_init_44
theorem mt_Ways_fillWithTickets : sf_Mt ({ cls := "SplitFares$Ways", name := "fillWithTickets", desc := "(LSplitFares$Office;I)V" } : Jvm.MethodName) prog_11_method_3_code 8 none 2 := ⟨sw_801, sw_6, ⟨by decide, by decide, by decide +kernel⟩, by decide⟩
theorem dd_Ways_fillWithTickets_0 : decode prog_11_method_3_code 0 = .ok (.aload_n 1, 1) := by decide +kernel
theorem dd_Ways_fillWithTickets_1 : decode prog_11_method_3_code 1 = .ok (.getfield 41, 3) := by decide +kernel
theorem dd_Ways_fillWithTickets_4 : decode prog_11_method_3_code 4 = .ok (.astore_n 3, 1) := by decide +kernel
theorem dd_Ways_fillWithTickets_5 : decode prog_11_method_3_code 5 = .ok (.iconst 0, 1) := by decide +kernel
theorem dd_Ways_fillWithTickets_6 : decode prog_11_method_3_code 6 = .ok (.istore 4, 2) := by decide +kernel
theorem dd_Ways_fillWithTickets_8 : decode prog_11_method_3_code 8 = .ok (.iload 4, 2) := by decide +kernel
theorem dd_Ways_fillWithTickets_10 : decode prog_11_method_3_code 10 = .ok (.bipush 64, 2) := by decide +kernel
theorem dd_Ways_fillWithTickets_12 : decode prog_11_method_3_code 12 = .ok (.if_icmp .ge 155, 3) := by decide +kernel
theorem dd_Ways_fillWithTickets_15 : decode prog_11_method_3_code 15 = .ok (.iload 4, 2) := by decide +kernel
theorem dd_Ways_fillWithTickets_17 : decode prog_11_method_3_code 17 = .ok (.bipush 8, 2) := by decide +kernel
theorem dd_Ways_fillWithTickets_19 : decode prog_11_method_3_code 19 = .ok (.idiv, 1) := by decide +kernel
theorem dd_Ways_fillWithTickets_20 : decode prog_11_method_3_code 20 = .ok (.istore 5, 2) := by decide +kernel
theorem dd_Ways_fillWithTickets_22 : decode prog_11_method_3_code 22 = .ok (.iload 4, 2) := by decide +kernel
theorem dd_Ways_fillWithTickets_24 : decode prog_11_method_3_code 24 = .ok (.bipush 8, 2) := by decide +kernel
theorem dd_Ways_fillWithTickets_26 : decode prog_11_method_3_code 26 = .ok (.irem, 1) := by decide +kernel
theorem dd_Ways_fillWithTickets_27 : decode prog_11_method_3_code 27 = .ok (.istore 6, 2) := by decide +kernel
theorem dd_Ways_fillWithTickets_29 : decode prog_11_method_3_code 29 = .ok (.iconst (-1), 1) := by decide +kernel
theorem dd_Ways_fillWithTickets_30 : decode prog_11_method_3_code 30 = .ok (.istore 7, 2) := by decide +kernel
theorem dd_Ways_fillWithTickets_32 : decode prog_11_method_3_code 32 = .ok (.aload_n 1, 1) := by decide +kernel
theorem dd_Ways_fillWithTickets_33 : decode prog_11_method_3_code 33 = .ok (.iload_n 2, 1) := by decide +kernel
theorem dd_Ways_fillWithTickets_34 : decode prog_11_method_3_code 34 = .ok (.iload 5, 2) := by decide +kernel
theorem dd_Ways_fillWithTickets_36 : decode prog_11_method_3_code 36 = .ok (.iload 6, 2) := by decide +kernel
theorem dd_Ways_fillWithTickets_38 : decode prog_11_method_3_code 38 = .ok (.invokevirtual 27, 3) := by decide +kernel
theorem dd_Ways_fillWithTickets_41 : decode prog_11_method_3_code 41 = .ok (.ifCond .eq 93, 3) := by decide +kernel
theorem dd_Ways_fillWithTickets_44 : decode prog_11_method_3_code 44 = .ok (.aload_n 3, 1) := by decide +kernel
theorem dd_Ways_fillWithTickets_45 : decode prog_11_method_3_code 45 = .ok (.iconst 0, 1) := by decide +kernel
theorem dd_Ways_fillWithTickets_46 : decode prog_11_method_3_code 46 = .ok (.iload 5, 2) := by decide +kernel
theorem dd_Ways_fillWithTickets_48 : decode prog_11_method_3_code 48 = .ok (.iload 6, 2) := by decide +kernel
theorem dd_Ways_fillWithTickets_50 : decode prog_11_method_3_code 50 = .ok (.invokevirtual 45, 3) := by decide +kernel
theorem dd_Ways_fillWithTickets_53 : decode prog_11_method_3_code 53 = .ok (.ifCond .le 22, 3) := by decide +kernel
theorem dd_Ways_fillWithTickets_56 : decode prog_11_method_3_code 56 = .ok (.aload_n 1, 1) := by decide +kernel
theorem dd_Ways_fillWithTickets_57 : decode prog_11_method_3_code 57 = .ok (.iload_n 2, 1) := by decide +kernel
theorem dd_Ways_fillWithTickets_58 : decode prog_11_method_3_code 58 = .ok (.iconst 0, 1) := by decide +kernel
theorem dd_Ways_fillWithTickets_59 : decode prog_11_method_3_code 59 = .ok (.iload 5, 2) := by decide +kernel
theorem dd_Ways_fillWithTickets_61 : decode prog_11_method_3_code 61 = .ok (.iload 6, 2) := by decide +kernel
theorem dd_Ways_fillWithTickets_63 : decode prog_11_method_3_code 63 = .ok (.invokevirtual 33, 3) := by decide +kernel
theorem dd_Ways_fillWithTickets_66 : decode prog_11_method_3_code 66 = .ok (.ifCond .ne 9, 3) := by decide +kernel
theorem dd_Ways_fillWithTickets_69 : decode prog_11_method_3_code 69 = .ok (.iconst 0, 1) := by decide +kernel
theorem dd_Ways_fillWithTickets_70 : decode prog_11_method_3_code 70 = .ok (.istore 7, 2) := by decide +kernel
theorem dd_Ways_fillWithTickets_72 : decode prog_11_method_3_code 72 = .ok (.goto 62, 3) := by decide +kernel
theorem dd_Ways_fillWithTickets_75 : decode prog_11_method_3_code 75 = .ok (.aload_n 3, 1) := by decide +kernel
theorem dd_Ways_fillWithTickets_76 : decode prog_11_method_3_code 76 = .ok (.iconst 2, 1) := by decide +kernel
theorem dd_Ways_fillWithTickets_77 : decode prog_11_method_3_code 77 = .ok (.iload 5, 2) := by decide +kernel
theorem dd_Ways_fillWithTickets_79 : decode prog_11_method_3_code 79 = .ok (.iload 6, 2) := by decide +kernel
theorem dd_Ways_fillWithTickets_81 : decode prog_11_method_3_code 81 = .ok (.invokevirtual 45, 3) := by decide +kernel
theorem dd_Ways_fillWithTickets_84 : decode prog_11_method_3_code 84 = .ok (.ifCond .le 22, 3) := by decide +kernel
theorem dd_Ways_fillWithTickets_87 : decode prog_11_method_3_code 87 = .ok (.aload_n 1, 1) := by decide +kernel
theorem dd_Ways_fillWithTickets_88 : decode prog_11_method_3_code 88 = .ok (.iload_n 2, 1) := by decide +kernel
theorem dd_Ways_fillWithTickets_89 : decode prog_11_method_3_code 89 = .ok (.iconst 1, 1) := by decide +kernel
theorem dd_Ways_fillWithTickets_90 : decode prog_11_method_3_code 90 = .ok (.iload 6, 2) := by decide +kernel
theorem dd_Ways_fillWithTickets_92 : decode prog_11_method_3_code 92 = .ok (.iload 5, 2) := by decide +kernel
theorem dd_Ways_fillWithTickets_94 : decode prog_11_method_3_code 94 = .ok (.invokevirtual 33, 3) := by decide +kernel
theorem dd_Ways_fillWithTickets_97 : decode prog_11_method_3_code 97 = .ok (.ifCond .ne 9, 3) := by decide +kernel
theorem dd_Ways_fillWithTickets_100 : decode prog_11_method_3_code 100 = .ok (.iconst 2, 1) := by decide +kernel
theorem dd_Ways_fillWithTickets_101 : decode prog_11_method_3_code 101 = .ok (.istore 7, 2) := by decide +kernel
theorem dd_Ways_fillWithTickets_103 : decode prog_11_method_3_code 103 = .ok (.goto 31, 3) := by decide +kernel
theorem dd_Ways_fillWithTickets_106 : decode prog_11_method_3_code 106 = .ok (.aload_n 3, 1) := by decide +kernel
theorem dd_Ways_fillWithTickets_107 : decode prog_11_method_3_code 107 = .ok (.iconst 1, 1) := by decide +kernel
theorem dd_Ways_fillWithTickets_108 : decode prog_11_method_3_code 108 = .ok (.iload 5, 2) := by decide +kernel
theorem dd_Ways_fillWithTickets_110 : decode prog_11_method_3_code 110 = .ok (.iload 6, 2) := by decide +kernel
theorem dd_Ways_fillWithTickets_112 : decode prog_11_method_3_code 112 = .ok (.invokevirtual 45, 3) := by decide +kernel
theorem dd_Ways_fillWithTickets_115 : decode prog_11_method_3_code 115 = .ok (.ifCond .le 19, 3) := by decide +kernel
theorem dd_Ways_fillWithTickets_118 : decode prog_11_method_3_code 118 = .ok (.aload_n 1, 1) := by decide +kernel
theorem dd_Ways_fillWithTickets_119 : decode prog_11_method_3_code 119 = .ok (.iload_n 2, 1) := by decide +kernel
theorem dd_Ways_fillWithTickets_120 : decode prog_11_method_3_code 120 = .ok (.iconst 1, 1) := by decide +kernel
theorem dd_Ways_fillWithTickets_121 : decode prog_11_method_3_code 121 = .ok (.iload 5, 2) := by decide +kernel
theorem dd_Ways_fillWithTickets_123 : decode prog_11_method_3_code 123 = .ok (.iload 6, 2) := by decide +kernel
theorem dd_Ways_fillWithTickets_125 : decode prog_11_method_3_code 125 = .ok (.invokevirtual 33, 3) := by decide +kernel
theorem dd_Ways_fillWithTickets_128 : decode prog_11_method_3_code 128 = .ok (.ifCond .ne 6, 3) := by decide +kernel
theorem dd_Ways_fillWithTickets_131 : decode prog_11_method_3_code 131 = .ok (.iconst 1, 1) := by decide +kernel
theorem dd_Ways_fillWithTickets_132 : decode prog_11_method_3_code 132 = .ok (.istore 7, 2) := by decide +kernel
theorem dd_Ways_fillWithTickets_134 : decode prog_11_method_3_code 134 = .ok (.aload_n 0, 1) := by decide +kernel
theorem dd_Ways_fillWithTickets_135 : decode prog_11_method_3_code 135 = .ok (.getfield 15, 3) := by decide +kernel
theorem dd_Ways_fillWithTickets_138 : decode prog_11_method_3_code 138 = .ok (.iload 4, 2) := by decide +kernel
theorem dd_Ways_fillWithTickets_140 : decode prog_11_method_3_code 140 = .ok (.iload 7, 2) := by decide +kernel
theorem dd_Ways_fillWithTickets_142 : decode prog_11_method_3_code 142 = .ok (.iastore, 1) := by decide +kernel
theorem dd_Ways_fillWithTickets_143 : decode prog_11_method_3_code 143 = .ok (.aload_n 0, 1) := by decide +kernel
theorem dd_Ways_fillWithTickets_144 : decode prog_11_method_3_code 144 = .ok (.getfield 9, 3) := by decide +kernel
theorem dd_Ways_fillWithTickets_147 : decode prog_11_method_3_code 147 = .ok (.iload 4, 2) := by decide +kernel
theorem dd_Ways_fillWithTickets_149 : decode prog_11_method_3_code 149 = .ok (.iload 7, 2) := by decide +kernel
theorem dd_Ways_fillWithTickets_151 : decode prog_11_method_3_code 151 = .ok (.iconst (-1), 1) := by decide +kernel
theorem dd_Ways_fillWithTickets_152 : decode prog_11_method_3_code 152 = .ok (.if_icmp .ne 7, 3) := by decide +kernel
theorem dd_Ways_fillWithTickets_155 : decode prog_11_method_3_code 155 = .ok (.iconst (-1), 1) := by decide +kernel
theorem dd_Ways_fillWithTickets_156 : decode prog_11_method_3_code 156 = .ok (.goto 4, 3) := by decide +kernel
theorem dd_Ways_fillWithTickets_159 : decode prog_11_method_3_code 159 = .ok (.iconst 1, 1) := by decide +kernel
theorem dd_Ways_fillWithTickets_160 : decode prog_11_method_3_code 160 = .ok (.iastore, 1) := by decide +kernel
theorem dd_Ways_fillWithTickets_161 : decode prog_11_method_3_code 161 = .ok (.iinc 4 1, 3) := by decide +kernel
theorem dd_Ways_fillWithTickets_164 : decode prog_11_method_3_code 164 = .ok (.goto (-156), 3) := by decide +kernel
theorem dd_Ways_fillWithTickets_167 : decode prog_11_method_3_code 167 = .ok (.return_, 1) := by decide +kernel
def jx_Ways_fillWithTickets (p0 : Option Nat) (p1 : Option Nat) (p2 : Int32) : sf_M (Unit) :=
  sf_bnd (sf_gR 4 0 p1) fun x1 =>
  sf_bnd (sf_loop (β := (Int32)) (γ := (Unit)) (fun b2 =>
  if (64 : Int32) ≤ b2 then (
  sf_ret (.inr ())
  ) else (
  sf_bnd (sf_ret ((b2 / (8 : Int32)))) fun y4 =>
  sf_bnd (sf_ret ((b2 - b2 / (8 : Int32) * (8 : Int32)))) fun y5 =>
  sf_bnd (sf_rc 4 p1 (jx_Office_goes p1 p2 y4 y5)) fun x6 =>
  sf_bnd (α := (Int32)) (
  if x6 = 0 then (
  sf_ret (-1 : Int32)
  ) else (
  sf_bnd (sf_rc 5 x1 (jx_Pocket_heldOf x1 (0 : Int32) y4 y5)) fun x8 =>
  sf_or (α := (Int32)) (β := (Int32)) (
  if x8 ≤ 0 then (
  sf_ret (.inr (-1 : Int32))
  ) else (
  sf_bnd (sf_rc 4 p1 (jx_Office_bars p1 p2 (0 : Int32) y4 y5)) fun x10 =>
  if x10 = 0 then (
  sf_ret (.inl (0 : Int32))
  ) else (
  sf_ret (.inr (-1 : Int32))
  )
  )
  ) (fun v12 =>
  sf_bnd (sf_rc 5 x1 (jx_Pocket_heldOf x1 (2 : Int32) y4 y5)) fun x13 =>
  sf_or (α := (Int32)) (β := (Int32)) (
  if x13 ≤ 0 then (
  sf_ret (.inr v12)
  ) else (
  sf_bnd (sf_rc 4 p1 (jx_Office_bars p1 p2 (1 : Int32) y5 y4)) fun x15 =>
  if x15 = 0 then (
  sf_ret (.inl (2 : Int32))
  ) else (
  sf_ret (.inr v12)
  )
  )
  ) (fun v17 =>
  sf_bnd (sf_rc 5 x1 (jx_Pocket_heldOf x1 (1 : Int32) y4 y5)) fun x18 =>
  if x18 ≤ 0 then (
  sf_ret v17
  ) else (
  sf_bnd (sf_rc 4 p1 (jx_Office_bars p1 p2 (1 : Int32) y4 y5)) fun x20 =>
  if x20 = 0 then (
  sf_ret (1 : Int32)
  ) else (
  sf_ret v17
  )
  )
  )
  )
  )
  ) (fun v22 =>
  sf_bnd (sf_gR 10 1 p0) fun x23 =>
  sf_bnd (sf_sI 0 x23 b2 v22) fun _ =>
  sf_bnd (sf_gR 10 0 p0) fun x24 =>
  sf_bnd (α := (Int32)) (
  if v22 = (-1 : Int32) then (
  sf_ret (-1 : Int32)
  ) else (
  sf_ret (1 : Int32)
  )
  ) (fun v26 =>
  sf_bnd (sf_sI 0 x24 b2 v26) fun _ =>
  sf_bnd (sf_ret (b2 + (1 : Int32))) fun y27 =>
  sf_ret (.inl y27)
  )
  )
  )
  ) sf_fuel (0 : Int32)) (fun e28 =>
  sf_ret ()
  )
set_option maxRecDepth 20000 in
set_option maxHeartbeats 4000000 in
theorem ok_Ways_fillWithTickets (p0 : Option Nat) (p1 : Option Nat) (p2 : Int32) : sf_Ok ({ cls := "SplitFares$Ways", name := "fillWithTickets", desc := "(LSplitFares$Office;I)V" } : Jvm.MethodName) prog_11_method_3_code 8 none 3 [sf_rv p0, sf_rv p1, .int p2] (jx_Ways_fillWithTickets p0 p1 p2) (fun _ => none) := by
  refine sf_Ok.of (env := [some (sf_rv p0), some (sf_rv p1), some (.int p2), none, none, none, none, none]) (plainFor_of_name (by decide)) [false, false, false] (fun G => ⟨pk_r, pk_r, pk_i, trivial⟩) (Nat.le_of_ble_eq_true rfl) rfl (fun X => ?_)
  unfold jx_Ways_fillWithTickets
  refine fp_aload_n (i := 1) (r := p1) dd_Ways_fillWithTickets_0 rfl rfl (fr_pc (pc' := 1) rfl ?_)
  refine fr_gR cl_4 0 (by decide) rfl sw_87 dd_Ways_fillWithTickets_1 (fun x1 => fr_pc (pc' := 4) rfl ?_)
  refine fp_astore_n (i := 3) dd_Ways_fillWithTickets_4 rfl (Nat.le_of_ble_eq_true rfl) (fun _ => c1_i rfl) (fr_to (pc' := 5) (env' := [some (sf_rv p0), some (sf_rv p1), some (.int p2), some (sf_rv x1), none, none, none, none]) (stk' := []) rfl rfl rfl ?_)
  refine fp_iconst (v := (0 : Int32)) dd_Ways_fillWithTickets_5 (by decide) (fr_pc (pc' := 6) rfl ?_)
  refine fp_istore (i := 4) dd_Ways_fillWithTickets_6 (Nat.le_of_ble_eq_true rfl) (fun _ => c1_r rfl) (fr_to (pc' := 8) (env' := [some (sf_rv p0), some (sf_rv p1), some (.int p2), some (sf_rv x1), some (.int (0 : Int32)), none, none, none]) (stk' := []) rfl rfl rfl ?_)
  refine fr_to (pc' := 8) (env' := [some (sf_rv p0), some (sf_rv p1), some (.int p2), some (sf_rv x1), some (.int (0 : Int32)), none, none, none]) (stk' := []) rfl rfl rfl ?_
  refine fr_bnd (l1 := (fun (e28 : (Unit)) => sf_p 167 [some (sf_rv p0), some (sf_rv p1), some (.int p2), some (sf_rv x1), none, none, none, none] [])) (fr_loop (Lb := (fun (b2 : (Int32)) => sf_p 8 [some (sf_rv p0), some (sf_rv p1), some (.int p2), some (sf_rv x1), some (.int b2), none, none, none] [])) (fun b2 => ?_) _ _) (fun e28 => ?_)
  · refine fp_iload (i := 4) (x := b2) dd_Ways_fillWithTickets_8 rfl (fr_pc (pc' := 10) rfl ?_)
    refine fp_bipush (v := (64 : Int32)) dd_Ways_fillWithTickets_10 (by decide) (fr_pc (pc' := 12) rfl ?_)
    refine fr_icmp_ge (tgt := 167) dd_Ways_fillWithTickets_12 rfl (fun _ => ?_) (fun _ => ?_)
    · refine fr_wk [true, true, true, true, false, false, false, false] ?_
      exact fr_ret rfl
    · refine fr_pc (pc' := 15) rfl ?_
      refine fp_iload (i := 4) (x := b2) dd_Ways_fillWithTickets_15 rfl (fr_pc (pc' := 17) rfl ?_)
      refine fp_bipush (v := (8 : Int32)) dd_Ways_fillWithTickets_17 (by decide) (fr_pc (pc' := 19) rfl ?_)
      refine fp_idiv0 dd_Ways_fillWithTickets_19 (by decide) (fr_pc (pc' := 20) rfl ?_)
      refine fr_nistore (i := 5) dd_Ways_fillWithTickets_20 (Nat.le_of_ble_eq_true rfl) (fun _ => c1_i rfl) (fun y4 => fr_to (pc' := 22) (env' := [some (sf_rv p0), some (sf_rv p1), some (.int p2), some (sf_rv x1), some (.int b2), some (.int y4), none, none]) (stk' := []) rfl rfl rfl ?_)
      refine fp_iload (i := 4) (x := b2) dd_Ways_fillWithTickets_22 rfl (fr_pc (pc' := 24) rfl ?_)
      refine fp_bipush (v := (8 : Int32)) dd_Ways_fillWithTickets_24 (by decide) (fr_pc (pc' := 26) rfl ?_)
      refine fp_irem0 dd_Ways_fillWithTickets_26 (by decide) (fr_pc (pc' := 27) rfl ?_)
      refine fr_nistore (i := 6) dd_Ways_fillWithTickets_27 (Nat.le_of_ble_eq_true rfl) (fun _ => c1_i rfl) (fun y5 => fr_to (pc' := 29) (env' := [some (sf_rv p0), some (sf_rv p1), some (.int p2), some (sf_rv x1), some (.int b2), some (.int y4), some (.int y5), none]) (stk' := []) rfl rfl rfl ?_)
      refine fp_iconst (v := (-1 : Int32)) dd_Ways_fillWithTickets_29 (by decide) (fr_pc (pc' := 30) rfl ?_)
      refine fp_istore (i := 7) dd_Ways_fillWithTickets_30 (Nat.le_of_ble_eq_true rfl) (fun _ => c1_i rfl) (fr_to (pc' := 32) (env' := [some (sf_rv p0), some (sf_rv p1), some (.int p2), some (sf_rv x1), some (.int b2), some (.int y4), some (.int y5), some (.int (-1 : Int32))]) (stk' := []) rfl rfl rfl ?_)
      refine fp_aload_n (i := 1) (r := p1) dd_Ways_fillWithTickets_32 rfl rfl (fr_pc (pc' := 33) rfl ?_)
      refine fp_iload_n (i := 2) (x := p2) dd_Ways_fillWithTickets_33 rfl rfl (fr_pc (pc' := 34) rfl ?_)
      refine fp_iload (i := 5) (x := y4) dd_Ways_fillWithTickets_34 rfl (fr_pc (pc' := 36) rfl ?_)
      refine fp_iload (i := 6) (x := y5) dd_Ways_fillWithTickets_36 rfl (fr_pc (pc' := 38) rfl ?_)
      refine fr_callV (stk := []) (As := [.int p2, .int y4, .int y5]) cl_4 (ok_Office_goes p1 p2 y4 y5) mt_Office_goes rfl rfl sw_802 sw_803 sw_804 (by decide) (Nat.le_of_ble_eq_true rfl) dd_Ways_fillWithTickets_38 (fun x6 => fr_to (pc' := 41) (env' := [some (sf_rv p0), some (sf_rv p1), some (.int p2), some (sf_rv x1), some (.int b2), some (.int y4), some (.int y5), some (.int (-1 : Int32))]) (stk' := [.int x6]) rfl rfl rfl ?_)
      refine fr_bnd (l1 := (fun (v22 : (Int32)) => sf_p 134 [some (sf_rv p0), some (sf_rv p1), some (.int p2), some (sf_rv x1), some (.int b2), some (.int y4), some (.int y5), some (.int v22)] [])) ?_ (fun v22 => ?_)
      · refine fr_if_eq (tgt := 134) dd_Ways_fillWithTickets_41 rfl (fun _ => ?_) (fun _ => ?_)
        · exact fr_ret rfl
        · refine fr_pc (pc' := 44) rfl ?_
          refine fp_aload_n (i := 3) (r := x1) dd_Ways_fillWithTickets_44 rfl rfl (fr_pc (pc' := 45) rfl ?_)
          refine fp_iconst (v := (0 : Int32)) dd_Ways_fillWithTickets_45 (by decide) (fr_pc (pc' := 46) rfl ?_)
          refine fp_iload (i := 5) (x := y4) dd_Ways_fillWithTickets_46 rfl (fr_pc (pc' := 48) rfl ?_)
          refine fp_iload (i := 6) (x := y5) dd_Ways_fillWithTickets_48 rfl (fr_pc (pc' := 50) rfl ?_)
          refine fr_callV (stk := []) (As := [.int (0 : Int32), .int y4, .int y5]) cl_5 (ok_Pocket_heldOf x1 (0 : Int32) y4 y5) mt_Pocket_heldOf rfl rfl sw_807 sw_473 sw_474 (by decide) (Nat.le_of_ble_eq_true rfl) dd_Ways_fillWithTickets_50 (fun x8 => fr_to (pc' := 53) (env' := [some (sf_rv p0), some (sf_rv p1), some (.int p2), some (sf_rv x1), some (.int b2), some (.int y4), some (.int y5), some (.int (-1 : Int32))]) (stk' := [.int x8]) rfl rfl rfl ?_)
          refine fr_or (l1 := (fun (v12 : (Int32)) => sf_p 75 [some (sf_rv p0), some (sf_rv p1), some (.int p2), some (sf_rv x1), some (.int b2), some (.int y4), some (.int y5), some (.int v12)] [])) ?_ (fun v12 => ?_)
          · refine fr_if_le (tgt := 75) dd_Ways_fillWithTickets_53 rfl (fun _ => ?_) (fun _ => ?_)
            · exact fr_ret rfl
            · refine fr_pc (pc' := 56) rfl ?_
              refine fp_aload_n (i := 1) (r := p1) dd_Ways_fillWithTickets_56 rfl rfl (fr_pc (pc' := 57) rfl ?_)
              refine fp_iload_n (i := 2) (x := p2) dd_Ways_fillWithTickets_57 rfl rfl (fr_pc (pc' := 58) rfl ?_)
              refine fp_iconst (v := (0 : Int32)) dd_Ways_fillWithTickets_58 (by decide) (fr_pc (pc' := 59) rfl ?_)
              refine fp_iload (i := 5) (x := y4) dd_Ways_fillWithTickets_59 rfl (fr_pc (pc' := 61) rfl ?_)
              refine fp_iload (i := 6) (x := y5) dd_Ways_fillWithTickets_61 rfl (fr_pc (pc' := 63) rfl ?_)
              refine fr_callV (stk := []) (As := [.int p2, .int (0 : Int32), .int y4, .int y5]) cl_4 (ok_Office_bars p1 p2 (0 : Int32) y4 y5) mt_Office_bars rfl rfl sw_808 sw_464 sw_465 (by decide) (Nat.le_of_ble_eq_true rfl) dd_Ways_fillWithTickets_63 (fun x10 => fr_to (pc' := 66) (env' := [some (sf_rv p0), some (sf_rv p1), some (.int p2), some (sf_rv x1), some (.int b2), some (.int y4), some (.int y5), some (.int (-1 : Int32))]) (stk' := [.int x10]) rfl rfl rfl ?_)
              refine fr_if_ne (tgt := 75) dd_Ways_fillWithTickets_66 rfl (fun _ => ?_) (fun _ => ?_)
              · refine fr_pc (pc' := 69) rfl ?_
                refine fp_iconst (v := (0 : Int32)) dd_Ways_fillWithTickets_69 (by decide) (fr_pc (pc' := 70) rfl ?_)
                refine fp_istore (i := 7) dd_Ways_fillWithTickets_70 (Nat.le_of_ble_eq_true rfl) (fun _ => c1_i rfl) (fr_to (pc' := 72) (env' := [some (sf_rv p0), some (sf_rv p1), some (.int p2), some (sf_rv x1), some (.int b2), some (.int y4), some (.int y5), some (.int (0 : Int32))]) (stk' := []) rfl rfl rfl ?_)
                refine fp_goto (tgt := 134) dd_Ways_fillWithTickets_72 rfl ?_
                exact fr_ret rfl
              · exact fr_ret rfl
          · refine fp_aload_n (i := 3) (r := x1) dd_Ways_fillWithTickets_75 rfl rfl (fr_pc (pc' := 76) rfl ?_)
            refine fp_iconst (v := (2 : Int32)) dd_Ways_fillWithTickets_76 (by decide) (fr_pc (pc' := 77) rfl ?_)
            refine fp_iload (i := 5) (x := y4) dd_Ways_fillWithTickets_77 rfl (fr_pc (pc' := 79) rfl ?_)
            refine fp_iload (i := 6) (x := y5) dd_Ways_fillWithTickets_79 rfl (fr_pc (pc' := 81) rfl ?_)
            refine fr_callV (stk := []) (As := [.int (2 : Int32), .int y4, .int y5]) cl_5 (ok_Pocket_heldOf x1 (2 : Int32) y4 y5) mt_Pocket_heldOf rfl rfl sw_807 sw_473 sw_474 (by decide) (Nat.le_of_ble_eq_true rfl) dd_Ways_fillWithTickets_81 (fun x13 => fr_to (pc' := 84) (env' := [some (sf_rv p0), some (sf_rv p1), some (.int p2), some (sf_rv x1), some (.int b2), some (.int y4), some (.int y5), some (.int v12)]) (stk' := [.int x13]) rfl rfl rfl ?_)
            refine fr_or (l1 := (fun (v17 : (Int32)) => sf_p 106 [some (sf_rv p0), some (sf_rv p1), some (.int p2), some (sf_rv x1), some (.int b2), some (.int y4), some (.int y5), some (.int v17)] [])) ?_ (fun v17 => ?_)
            · refine fr_if_le (tgt := 106) dd_Ways_fillWithTickets_84 rfl (fun _ => ?_) (fun _ => ?_)
              · exact fr_ret rfl
              · refine fr_pc (pc' := 87) rfl ?_
                refine fp_aload_n (i := 1) (r := p1) dd_Ways_fillWithTickets_87 rfl rfl (fr_pc (pc' := 88) rfl ?_)
                refine fp_iload_n (i := 2) (x := p2) dd_Ways_fillWithTickets_88 rfl rfl (fr_pc (pc' := 89) rfl ?_)
                refine fp_iconst (v := (1 : Int32)) dd_Ways_fillWithTickets_89 (by decide) (fr_pc (pc' := 90) rfl ?_)
                refine fp_iload (i := 6) (x := y5) dd_Ways_fillWithTickets_90 rfl (fr_pc (pc' := 92) rfl ?_)
                refine fp_iload (i := 5) (x := y4) dd_Ways_fillWithTickets_92 rfl (fr_pc (pc' := 94) rfl ?_)
                refine fr_callV (stk := []) (As := [.int p2, .int (1 : Int32), .int y5, .int y4]) cl_4 (ok_Office_bars p1 p2 (1 : Int32) y5 y4) mt_Office_bars rfl rfl sw_808 sw_464 sw_465 (by decide) (Nat.le_of_ble_eq_true rfl) dd_Ways_fillWithTickets_94 (fun x15 => fr_to (pc' := 97) (env' := [some (sf_rv p0), some (sf_rv p1), some (.int p2), some (sf_rv x1), some (.int b2), some (.int y4), some (.int y5), some (.int v12)]) (stk' := [.int x15]) rfl rfl rfl ?_)
                refine fr_if_ne (tgt := 106) dd_Ways_fillWithTickets_97 rfl (fun _ => ?_) (fun _ => ?_)
                · refine fr_pc (pc' := 100) rfl ?_
                  refine fp_iconst (v := (2 : Int32)) dd_Ways_fillWithTickets_100 (by decide) (fr_pc (pc' := 101) rfl ?_)
                  refine fp_istore (i := 7) dd_Ways_fillWithTickets_101 (Nat.le_of_ble_eq_true rfl) (fun _ => c1_i rfl) (fr_to (pc' := 103) (env' := [some (sf_rv p0), some (sf_rv p1), some (.int p2), some (sf_rv x1), some (.int b2), some (.int y4), some (.int y5), some (.int (2 : Int32))]) (stk' := []) rfl rfl rfl ?_)
                  refine fp_goto (tgt := 134) dd_Ways_fillWithTickets_103 rfl ?_
                  exact fr_ret rfl
                · exact fr_ret rfl
            · refine fp_aload_n (i := 3) (r := x1) dd_Ways_fillWithTickets_106 rfl rfl (fr_pc (pc' := 107) rfl ?_)
              refine fp_iconst (v := (1 : Int32)) dd_Ways_fillWithTickets_107 (by decide) (fr_pc (pc' := 108) rfl ?_)
              refine fp_iload (i := 5) (x := y4) dd_Ways_fillWithTickets_108 rfl (fr_pc (pc' := 110) rfl ?_)
              refine fp_iload (i := 6) (x := y5) dd_Ways_fillWithTickets_110 rfl (fr_pc (pc' := 112) rfl ?_)
              refine fr_callV (stk := []) (As := [.int (1 : Int32), .int y4, .int y5]) cl_5 (ok_Pocket_heldOf x1 (1 : Int32) y4 y5) mt_Pocket_heldOf rfl rfl sw_807 sw_473 sw_474 (by decide) (Nat.le_of_ble_eq_true rfl) dd_Ways_fillWithTickets_112 (fun x18 => fr_to (pc' := 115) (env' := [some (sf_rv p0), some (sf_rv p1), some (.int p2), some (sf_rv x1), some (.int b2), some (.int y4), some (.int y5), some (.int v17)]) (stk' := [.int x18]) rfl rfl rfl ?_)
              refine fr_if_le (tgt := 134) dd_Ways_fillWithTickets_115 rfl (fun _ => ?_) (fun _ => ?_)
              · exact fr_ret rfl
              · refine fr_pc (pc' := 118) rfl ?_
                refine fp_aload_n (i := 1) (r := p1) dd_Ways_fillWithTickets_118 rfl rfl (fr_pc (pc' := 119) rfl ?_)
                refine fp_iload_n (i := 2) (x := p2) dd_Ways_fillWithTickets_119 rfl rfl (fr_pc (pc' := 120) rfl ?_)
                refine fp_iconst (v := (1 : Int32)) dd_Ways_fillWithTickets_120 (by decide) (fr_pc (pc' := 121) rfl ?_)
                refine fp_iload (i := 5) (x := y4) dd_Ways_fillWithTickets_121 rfl (fr_pc (pc' := 123) rfl ?_)
                refine fp_iload (i := 6) (x := y5) dd_Ways_fillWithTickets_123 rfl (fr_pc (pc' := 125) rfl ?_)
                refine fr_callV (stk := []) (As := [.int p2, .int (1 : Int32), .int y4, .int y5]) cl_4 (ok_Office_bars p1 p2 (1 : Int32) y4 y5) mt_Office_bars rfl rfl sw_808 sw_464 sw_465 (by decide) (Nat.le_of_ble_eq_true rfl) dd_Ways_fillWithTickets_125 (fun x20 => fr_to (pc' := 128) (env' := [some (sf_rv p0), some (sf_rv p1), some (.int p2), some (sf_rv x1), some (.int b2), some (.int y4), some (.int y5), some (.int v17)]) (stk' := [.int x20]) rfl rfl rfl ?_)
                refine fr_if_ne (tgt := 134) dd_Ways_fillWithTickets_128 rfl (fun _ => ?_) (fun _ => ?_)
                · refine fr_pc (pc' := 131) rfl ?_
                  refine fp_iconst (v := (1 : Int32)) dd_Ways_fillWithTickets_131 (by decide) (fr_pc (pc' := 132) rfl ?_)
                  refine fp_istore (i := 7) dd_Ways_fillWithTickets_132 (Nat.le_of_ble_eq_true rfl) (fun _ => c1_i rfl) (fr_to (pc' := 134) (env' := [some (sf_rv p0), some (sf_rv p1), some (.int p2), some (sf_rv x1), some (.int b2), some (.int y4), some (.int y5), some (.int (1 : Int32))]) (stk' := []) rfl rfl rfl ?_)
                  exact fr_ret rfl
                · exact fr_ret rfl
      · refine fp_aload_n (i := 0) (r := p0) dd_Ways_fillWithTickets_134 rfl rfl (fr_pc (pc' := 135) rfl ?_)
        refine fr_gR cl_10 1 (by decide) rfl sw_149 dd_Ways_fillWithTickets_135 (fun x23 => fr_pc (pc' := 138) rfl ?_)
        refine fp_iload (i := 4) (x := b2) dd_Ways_fillWithTickets_138 rfl (fr_pc (pc' := 140) rfl ?_)
        refine fp_iload (i := 7) (x := v22) dd_Ways_fillWithTickets_140 rfl (fr_pc (pc' := 142) rfl ?_)
        refine fr_sI0 dd_Ways_fillWithTickets_142 (fr_pc (pc' := 143) rfl ?_)
        refine fp_aload_n (i := 0) (r := p0) dd_Ways_fillWithTickets_143 rfl rfl (fr_pc (pc' := 144) rfl ?_)
        refine fr_gR cl_10 0 (by decide) rfl sw_148 dd_Ways_fillWithTickets_144 (fun x24 => fr_pc (pc' := 147) rfl ?_)
        refine fp_iload (i := 4) (x := b2) dd_Ways_fillWithTickets_147 rfl (fr_pc (pc' := 149) rfl ?_)
        refine fp_iload (i := 7) (x := v22) dd_Ways_fillWithTickets_149 rfl (fr_pc (pc' := 151) rfl ?_)
        refine fp_iconst (v := (-1 : Int32)) dd_Ways_fillWithTickets_151 (by decide) (fr_pc (pc' := 152) rfl ?_)
        refine fr_bnd (l1 := (fun (v26 : (Int32)) => sf_p 160 [some (sf_rv p0), some (sf_rv p1), some (.int p2), some (sf_rv x1), some (.int b2), some (.int y4), some (.int y5), some (.int v22)] [.int v26, .int b2, sf_rv x24])) ?_ (fun v26 => ?_)
        · refine fr_icmp_ne (tgt := 159) dd_Ways_fillWithTickets_152 rfl (fun _ => ?_) (fun _ => ?_)
          · refine fr_pc (pc' := 155) rfl ?_
            refine fp_iconst (v := (-1 : Int32)) dd_Ways_fillWithTickets_155 (by decide) (fr_pc (pc' := 156) rfl ?_)
            refine fp_goto (tgt := 160) dd_Ways_fillWithTickets_156 rfl ?_
            exact fr_ret rfl
          · refine fp_iconst (v := (1 : Int32)) dd_Ways_fillWithTickets_159 (by decide) (fr_pc (pc' := 160) rfl ?_)
            exact fr_ret rfl
        · refine fr_sI0 dd_Ways_fillWithTickets_160 (fr_pc (pc' := 161) rfl ?_)
          refine fr_niinc (i := 4) (x := b2) (w := (1 : Int32)) dd_Ways_fillWithTickets_161 rfl (by decide) (Nat.le_of_ble_eq_true rfl) (fun _ => c1_r rfl) (fun y27 => fr_to (pc' := 164) (env' := [some (sf_rv p0), some (sf_rv p1), some (.int p2), some (sf_rv x1), some (.int y27), some (.int y4), some (.int y5), some (.int v22)]) (stk' := []) rfl rfl rfl ?_)
          refine fp_goto (tgt := 8) dd_Ways_fillWithTickets_164 rfl ?_
          refine fr_wk [true, true, true, true, true, false, false, false] ?_
          exact fr_ret rfl
  · exact fr_vret rfl rfl dd_Ways_fillWithTickets_167
theorem mt_Ways_legOf : sf_Mt ({ cls := "SplitFares$Ways", name := "legOf", desc := "(II)I" } : Jvm.MethodName) prog_11_method_6_code 4 (some .int) 2 := ⟨sw_824, sw_6, ⟨by decide, by decide, by decide +kernel⟩, by decide⟩
theorem dd_Ways_legOf_0 : decode prog_11_method_6_code 0 = .ok (.iload_n 1, 1) := by decide +kernel
theorem dd_Ways_legOf_1 : decode prog_11_method_6_code 1 = .ok (.bipush 8, 2) := by decide +kernel
theorem dd_Ways_legOf_3 : decode prog_11_method_6_code 3 = .ok (.imul, 1) := by decide +kernel
theorem dd_Ways_legOf_4 : decode prog_11_method_6_code 4 = .ok (.iload_n 2, 1) := by decide +kernel
theorem dd_Ways_legOf_5 : decode prog_11_method_6_code 5 = .ok (.iadd, 1) := by decide +kernel
theorem dd_Ways_legOf_6 : decode prog_11_method_6_code 6 = .ok (.istore_n 3, 1) := by decide +kernel
theorem dd_Ways_legOf_7 : decode prog_11_method_6_code 7 = .ok (.iload_n 3, 1) := by decide +kernel
theorem dd_Ways_legOf_8 : decode prog_11_method_6_code 8 = .ok (.ifCond .lt 18, 3) := by decide +kernel
theorem dd_Ways_legOf_11 : decode prog_11_method_6_code 11 = .ok (.iload_n 3, 1) := by decide +kernel
theorem dd_Ways_legOf_12 : decode prog_11_method_6_code 12 = .ok (.bipush 64, 2) := by decide +kernel
theorem dd_Ways_legOf_14 : decode prog_11_method_6_code 14 = .ok (.if_icmp .ge 12, 3) := by decide +kernel
theorem dd_Ways_legOf_17 : decode prog_11_method_6_code 17 = .ok (.aload_n 0, 1) := by decide +kernel
theorem dd_Ways_legOf_18 : decode prog_11_method_6_code 18 = .ok (.getfield 9, 3) := by decide +kernel
theorem dd_Ways_legOf_21 : decode prog_11_method_6_code 21 = .ok (.iload_n 3, 1) := by decide +kernel
theorem dd_Ways_legOf_22 : decode prog_11_method_6_code 22 = .ok (.iaload, 1) := by decide +kernel
theorem dd_Ways_legOf_23 : decode prog_11_method_6_code 23 = .ok (.goto 4, 3) := by decide +kernel
theorem dd_Ways_legOf_26 : decode prog_11_method_6_code 26 = .ok (.iconst (-1), 1) := by decide +kernel
theorem dd_Ways_legOf_27 : decode prog_11_method_6_code 27 = .ok (.ireturn, 1) := by decide +kernel
def jx_Ways_legOf (p0 : Option Nat) (p1 : Int32) (p2 : Int32) : sf_M (Int32) :=
  sf_bnd (sf_ret (((p1 * (8 : Int32)) + p2))) fun y1 =>
  if y1 < 0 then (
  sf_ret (-1 : Int32)
  ) else (
  if (64 : Int32) ≤ y1 then (
  sf_ret (-1 : Int32)
  ) else (
  sf_bnd (sf_gR 10 0 p0) fun x4 =>
  sf_bnd (sf_aI 0 x4 y1) fun x5 =>
  sf_ret x5
  )
  )
set_option maxRecDepth 20000 in
set_option maxHeartbeats 4000000 in
theorem ok_Ways_legOf (p0 : Option Nat) (p1 : Int32) (p2 : Int32) : sf_Ok ({ cls := "SplitFares$Ways", name := "legOf", desc := "(II)I" } : Jvm.MethodName) prog_11_method_6_code 4 (some .int) 0 [sf_rv p0, .int p1, .int p2] (jx_Ways_legOf p0 p1 p2) (fun r => some (.int r)) := by
  refine sf_Ok.of (env := [some (sf_rv p0), some (.int p1), some (.int p2), none]) (plainFor_of_name (by decide)) [false, false, false] (fun G => ⟨pk_r, pk_i, pk_i, trivial⟩) (Nat.le_of_ble_eq_true rfl) rfl (fun X => ?_)
  unfold jx_Ways_legOf
  refine fp_iload_n (i := 1) (x := p1) dd_Ways_legOf_0 rfl rfl (fr_pc (pc' := 1) rfl ?_)
  refine fp_bipush (v := (8 : Int32)) dd_Ways_legOf_1 (by decide) (fr_pc (pc' := 3) rfl ?_)
  refine fp_imul dd_Ways_legOf_3 (fr_pc (pc' := 4) rfl ?_)
  refine fp_iload_n (i := 2) (x := p2) dd_Ways_legOf_4 rfl rfl (fr_pc (pc' := 5) rfl ?_)
  refine fp_iadd dd_Ways_legOf_5 (fr_pc (pc' := 6) rfl ?_)
  refine fr_nistore_n (i := 3) dd_Ways_legOf_6 rfl (Nat.le_of_ble_eq_true rfl) (fun _ => c1_i rfl) (fun y1 => fr_to (pc' := 7) (env' := [some (sf_rv p0), some (.int p1), some (.int p2), some (.int y1)]) (stk' := []) rfl rfl rfl ?_)
  refine fp_iload_n (i := 3) (x := y1) dd_Ways_legOf_7 rfl rfl (fr_pc (pc' := 8) rfl ?_)
  refine fr_if_lt (tgt := 26) dd_Ways_legOf_8 rfl (fun _ => ?_) (fun _ => ?_)
  · refine fp_iconst (v := (-1 : Int32)) dd_Ways_legOf_26 (by decide) (fr_pc (pc' := 27) rfl ?_)
    exact fr_iret (v := (-1 : Int32)) rfl rfl dd_Ways_legOf_27
  · refine fr_pc (pc' := 11) rfl ?_
    refine fp_iload_n (i := 3) (x := y1) dd_Ways_legOf_11 rfl rfl (fr_pc (pc' := 12) rfl ?_)
    refine fp_bipush (v := (64 : Int32)) dd_Ways_legOf_12 (by decide) (fr_pc (pc' := 14) rfl ?_)
    refine fr_icmp_ge (tgt := 26) dd_Ways_legOf_14 rfl (fun _ => ?_) (fun _ => ?_)
    · refine fp_iconst (v := (-1 : Int32)) dd_Ways_legOf_26 (by decide) (fr_pc (pc' := 27) rfl ?_)
      exact fr_iret (v := (-1 : Int32)) rfl rfl dd_Ways_legOf_27
    · refine fr_pc (pc' := 17) rfl ?_
      refine fp_aload_n (i := 0) (r := p0) dd_Ways_legOf_17 rfl rfl (fr_pc (pc' := 18) rfl ?_)
      refine fr_gR cl_10 0 (by decide) rfl sw_148 dd_Ways_legOf_18 (fun x4 => fr_pc (pc' := 21) rfl ?_)
      refine fp_iload_n (i := 3) (x := y1) dd_Ways_legOf_21 rfl rfl (fr_pc (pc' := 22) rfl ?_)
      refine fr_aI0 dd_Ways_legOf_22 (fun x5 => fr_pc (pc' := 23) rfl ?_)
      refine fp_goto (tgt := 27) dd_Ways_legOf_23 rfl ?_
      exact fr_iret (v := x5) rfl rfl dd_Ways_legOf_27
theorem mt_Ways_leastByOneMore : sf_Mt ({ cls := "SplitFares$Ways", name := "leastByOneMore", desc := "(I)I" } : Jvm.MethodName) prog_11_method_8_code 5 (some .int) 1 := ⟨sw_820, sw_6, ⟨by decide, by decide, by decide +kernel⟩, by decide⟩
theorem dd_Ways_leastByOneMore_0 : decode prog_11_method_8_code 0 = .ok (.aload_n 0, 1) := by decide +kernel
theorem dd_Ways_leastByOneMore_1 : decode prog_11_method_8_code 1 = .ok (.getfield 21, 3) := by decide +kernel
theorem dd_Ways_leastByOneMore_4 : decode prog_11_method_8_code 4 = .ok (.iload_n 1, 1) := by decide +kernel
theorem dd_Ways_leastByOneMore_5 : decode prog_11_method_8_code 5 = .ok (.iaload, 1) := by decide +kernel
theorem dd_Ways_leastByOneMore_6 : decode prog_11_method_8_code 6 = .ok (.istore_n 2, 1) := by decide +kernel
theorem dd_Ways_leastByOneMore_7 : decode prog_11_method_8_code 7 = .ok (.iconst 0, 1) := by decide +kernel
theorem dd_Ways_leastByOneMore_8 : decode prog_11_method_8_code 8 = .ok (.istore_n 3, 1) := by decide +kernel
theorem dd_Ways_leastByOneMore_9 : decode prog_11_method_8_code 9 = .ok (.iload_n 3, 1) := by decide +kernel
theorem dd_Ways_leastByOneMore_10 : decode prog_11_method_8_code 10 = .ok (.bipush 8, 2) := by decide +kernel
theorem dd_Ways_leastByOneMore_12 : decode prog_11_method_8_code 12 = .ok (.if_icmp .ge 58, 3) := by decide +kernel
theorem dd_Ways_leastByOneMore_15 : decode prog_11_method_8_code 15 = .ok (.aload_n 0, 1) := by decide +kernel
theorem dd_Ways_leastByOneMore_16 : decode prog_11_method_8_code 16 = .ok (.iload_n 1, 1) := by decide +kernel
theorem dd_Ways_leastByOneMore_17 : decode prog_11_method_8_code 17 = .ok (.iload_n 3, 1) := by decide +kernel
theorem dd_Ways_leastByOneMore_18 : decode prog_11_method_8_code 18 = .ok (.invokevirtual 81, 3) := by decide +kernel
theorem dd_Ways_leastByOneMore_21 : decode prog_11_method_8_code 21 = .ok (.istore 4, 2) := by decide +kernel
theorem dd_Ways_leastByOneMore_23 : decode prog_11_method_8_code 23 = .ok (.iload 4, 2) := by decide +kernel
theorem dd_Ways_leastByOneMore_25 : decode prog_11_method_8_code 25 = .ok (.ifCond .lt 39, 3) := by decide +kernel
theorem dd_Ways_leastByOneMore_28 : decode prog_11_method_8_code 28 = .ok (.aload_n 0, 1) := by decide +kernel
theorem dd_Ways_leastByOneMore_29 : decode prog_11_method_8_code 29 = .ok (.getfield 21, 3) := by decide +kernel
theorem dd_Ways_leastByOneMore_32 : decode prog_11_method_8_code 32 = .ok (.iload_n 3, 1) := by decide +kernel
theorem dd_Ways_leastByOneMore_33 : decode prog_11_method_8_code 33 = .ok (.iaload, 1) := by decide +kernel
theorem dd_Ways_leastByOneMore_34 : decode prog_11_method_8_code 34 = .ok (.ifCond .lt 30, 3) := by decide +kernel
theorem dd_Ways_leastByOneMore_37 : decode prog_11_method_8_code 37 = .ok (.iload_n 2, 1) := by decide +kernel
theorem dd_Ways_leastByOneMore_38 : decode prog_11_method_8_code 38 = .ok (.ifCond .lt 16, 3) := by decide +kernel
theorem dd_Ways_leastByOneMore_41 : decode prog_11_method_8_code 41 = .ok (.iload 4, 2) := by decide +kernel
theorem dd_Ways_leastByOneMore_43 : decode prog_11_method_8_code 43 = .ok (.aload_n 0, 1) := by decide +kernel
theorem dd_Ways_leastByOneMore_44 : decode prog_11_method_8_code 44 = .ok (.getfield 21, 3) := by decide +kernel
theorem dd_Ways_leastByOneMore_47 : decode prog_11_method_8_code 47 = .ok (.iload_n 3, 1) := by decide +kernel
theorem dd_Ways_leastByOneMore_48 : decode prog_11_method_8_code 48 = .ok (.iaload, 1) := by decide +kernel
theorem dd_Ways_leastByOneMore_49 : decode prog_11_method_8_code 49 = .ok (.iadd, 1) := by decide +kernel
theorem dd_Ways_leastByOneMore_50 : decode prog_11_method_8_code 50 = .ok (.iload_n 2, 1) := by decide +kernel
theorem dd_Ways_leastByOneMore_51 : decode prog_11_method_8_code 51 = .ok (.if_icmp .ge 13, 3) := by decide +kernel
theorem dd_Ways_leastByOneMore_54 : decode prog_11_method_8_code 54 = .ok (.iload 4, 2) := by decide +kernel
theorem dd_Ways_leastByOneMore_56 : decode prog_11_method_8_code 56 = .ok (.aload_n 0, 1) := by decide +kernel
theorem dd_Ways_leastByOneMore_57 : decode prog_11_method_8_code 57 = .ok (.getfield 21, 3) := by decide +kernel
theorem dd_Ways_leastByOneMore_60 : decode prog_11_method_8_code 60 = .ok (.iload_n 3, 1) := by decide +kernel
theorem dd_Ways_leastByOneMore_61 : decode prog_11_method_8_code 61 = .ok (.iaload, 1) := by decide +kernel
theorem dd_Ways_leastByOneMore_62 : decode prog_11_method_8_code 62 = .ok (.iadd, 1) := by decide +kernel
theorem dd_Ways_leastByOneMore_63 : decode prog_11_method_8_code 63 = .ok (.istore_n 2, 1) := by decide +kernel
theorem dd_Ways_leastByOneMore_64 : decode prog_11_method_8_code 64 = .ok (.iinc 3 1, 3) := by decide +kernel
theorem dd_Ways_leastByOneMore_67 : decode prog_11_method_8_code 67 = .ok (.goto (-58), 3) := by decide +kernel
theorem dd_Ways_leastByOneMore_70 : decode prog_11_method_8_code 70 = .ok (.iload_n 2, 1) := by decide +kernel
theorem dd_Ways_leastByOneMore_71 : decode prog_11_method_8_code 71 = .ok (.ireturn, 1) := by decide +kernel
def jx_Ways_leastByOneMore (p0 : Option Nat) (p1 : Int32) : sf_M (Int32) :=
  sf_bnd (sf_gR 10 3 p0) fun x1 =>
  sf_bnd (sf_aI 0 x1 p1) fun x2 =>
  sf_bnd (sf_loop (β := (Int32 × Int32)) (γ := (Int32)) (fun b3 =>
  if (8 : Int32) ≤ b3.2 then (
  sf_ret (.inr b3.1)
  ) else (
  sf_bnd (sf_rc 10 p0 (jx_Ways_legOf p0 p1 b3.2)) fun x5 =>
  if x5 < 0 then (
  sf_bnd (sf_ret (b3.2 + (1 : Int32))) fun y7 =>
  sf_ret (.inl (b3.1, y7))
  ) else (
  sf_bnd (sf_gR 10 3 p0) fun x8 =>
  sf_bnd (sf_aI 0 x8 b3.2) fun x9 =>
  if x9 < 0 then (
  sf_bnd (sf_ret (b3.2 + (1 : Int32))) fun y11 =>
  sf_ret (.inl (b3.1, y11))
  ) else (
  sf_or (α := ((Int32 × Int32) ⊕ (Int32))) (β := (Int32)) (
  if b3.1 < 0 then (
  sf_ret (.inr b3.2)
  ) else (
  sf_bnd (sf_gR 10 3 p0) fun x13 =>
  sf_bnd (sf_aI 0 x13 b3.2) fun x14 =>
  if b3.1 ≤ (x5 + x14) then (
  sf_bnd (sf_ret (b3.2 + (1 : Int32))) fun y16 =>
  sf_ret (.inl (.inl (b3.1, y16)))
  ) else (
  sf_ret (.inr b3.2)
  )
  )
  ) (fun v17 =>
  sf_bnd (sf_gR 10 3 p0) fun x18 =>
  sf_bnd (sf_aI 0 x18 v17) fun x19 =>
  sf_bnd (sf_ret ((x5 + x19))) fun y20 =>
  sf_bnd (sf_ret (v17 + (1 : Int32))) fun y21 =>
  sf_ret (.inl (y20, y21))
  )
  )
  )
  )
  ) sf_fuel (x2, (0 : Int32))) (fun e22 =>
  sf_ret e22
  )
set_option maxRecDepth 20000 in
set_option maxHeartbeats 4000000 in
theorem ok_Ways_leastByOneMore (p0 : Option Nat) (p1 : Int32) : sf_Ok ({ cls := "SplitFares$Ways", name := "leastByOneMore", desc := "(I)I" } : Jvm.MethodName) prog_11_method_8_code 5 (some .int) 1 [sf_rv p0, .int p1] (jx_Ways_leastByOneMore p0 p1) (fun r => some (.int r)) := by
  refine sf_Ok.of (env := [some (sf_rv p0), some (.int p1), none, none, none]) (plainFor_of_name (by decide)) [false, false] (fun G => ⟨pk_r, pk_i, trivial⟩) (Nat.le_of_ble_eq_true rfl) rfl (fun X => ?_)
  unfold jx_Ways_leastByOneMore
  refine fp_aload_n (i := 0) (r := p0) dd_Ways_leastByOneMore_0 rfl rfl (fr_pc (pc' := 1) rfl ?_)
  refine fr_gR cl_10 3 (by decide) rfl sw_151 dd_Ways_leastByOneMore_1 (fun x1 => fr_pc (pc' := 4) rfl ?_)
  refine fp_iload_n (i := 1) (x := p1) dd_Ways_leastByOneMore_4 rfl rfl (fr_pc (pc' := 5) rfl ?_)
  refine fr_aI0 dd_Ways_leastByOneMore_5 (fun x2 => fr_pc (pc' := 6) rfl ?_)
  refine fp_istore_n (i := 2) dd_Ways_leastByOneMore_6 rfl (Nat.le_of_ble_eq_true rfl) (fun _ => c1_i rfl) (fr_to (pc' := 7) (env' := [some (sf_rv p0), some (.int p1), some (.int x2), none, none]) (stk' := []) rfl rfl rfl ?_)
  refine fp_iconst (v := (0 : Int32)) dd_Ways_leastByOneMore_7 (by decide) (fr_pc (pc' := 8) rfl ?_)
  refine fp_istore_n (i := 3) dd_Ways_leastByOneMore_8 rfl (Nat.le_of_ble_eq_true rfl) (fun _ => c1_i rfl) (fr_to (pc' := 9) (env' := [some (sf_rv p0), some (.int p1), some (.int x2), some (.int (0 : Int32)), none]) (stk' := []) rfl rfl rfl ?_)
  refine fr_to (pc' := 9) (env' := [some (sf_rv p0), some (.int p1), some (.int x2), some (.int (0 : Int32)), none]) (stk' := []) rfl rfl rfl ?_
  refine fr_bnd (l1 := (fun (e22 : (Int32)) => sf_p 70 [some (sf_rv p0), some (.int p1), some (.int e22), none, none] [])) (fr_loop (Lb := (fun (b3 : (Int32 × Int32)) => sf_p 9 [some (sf_rv p0), some (.int p1), some (.int b3.1), some (.int b3.2), none] [])) (fun b3 => ?_) _ _) (fun e22 => ?_)
  · refine fp_iload_n (i := 3) (x := b3.2) dd_Ways_leastByOneMore_9 rfl rfl (fr_pc (pc' := 10) rfl ?_)
    refine fp_bipush (v := (8 : Int32)) dd_Ways_leastByOneMore_10 (by decide) (fr_pc (pc' := 12) rfl ?_)
    refine fr_icmp_ge (tgt := 70) dd_Ways_leastByOneMore_12 rfl (fun _ => ?_) (fun _ => ?_)
    · refine fr_wk [true, true, true, false, false] ?_
      exact fr_ret rfl
    · refine fr_pc (pc' := 15) rfl ?_
      refine fp_aload_n (i := 0) (r := p0) dd_Ways_leastByOneMore_15 rfl rfl (fr_pc (pc' := 16) rfl ?_)
      refine fp_iload_n (i := 1) (x := p1) dd_Ways_leastByOneMore_16 rfl rfl (fr_pc (pc' := 17) rfl ?_)
      refine fp_iload_n (i := 3) (x := b3.2) dd_Ways_leastByOneMore_17 rfl rfl (fr_pc (pc' := 18) rfl ?_)
      refine fr_callV (stk := []) (As := [.int p1, .int b3.2]) cl_10 (ok_Ways_legOf p0 p1 b3.2) mt_Ways_legOf rfl rfl sw_821 sw_823 sp_20 (by decide) (Nat.le_of_ble_eq_true rfl) dd_Ways_leastByOneMore_18 (fun x5 => fr_to (pc' := 21) (env' := [some (sf_rv p0), some (.int p1), some (.int b3.1), some (.int b3.2), none]) (stk' := [.int x5]) rfl rfl rfl ?_)
      refine fp_istore (i := 4) dd_Ways_leastByOneMore_21 (Nat.le_of_ble_eq_true rfl) (fun _ => c1_i rfl) (fr_to (pc' := 23) (env' := [some (sf_rv p0), some (.int p1), some (.int b3.1), some (.int b3.2), some (.int x5)]) (stk' := []) rfl rfl rfl ?_)
      refine fp_iload (i := 4) (x := x5) dd_Ways_leastByOneMore_23 rfl (fr_pc (pc' := 25) rfl ?_)
      refine fr_if_lt (tgt := 64) dd_Ways_leastByOneMore_25 rfl (fun _ => ?_) (fun _ => ?_)
      · refine fr_niinc (i := 3) (x := b3.2) (w := (1 : Int32)) dd_Ways_leastByOneMore_64 rfl (by decide) (Nat.le_of_ble_eq_true rfl) (fun _ => c1_i rfl) (fun y7 => fr_to (pc' := 67) (env' := [some (sf_rv p0), some (.int p1), some (.int b3.1), some (.int y7), some (.int x5)]) (stk' := []) rfl rfl rfl ?_)
        refine fp_goto (tgt := 9) dd_Ways_leastByOneMore_67 rfl ?_
        refine fr_wk [true, true, true, true, false] ?_
        exact fr_ret rfl
      · refine fr_pc (pc' := 28) rfl ?_
        refine fp_aload_n (i := 0) (r := p0) dd_Ways_leastByOneMore_28 rfl rfl (fr_pc (pc' := 29) rfl ?_)
        refine fr_gR cl_10 3 (by decide) rfl sw_151 dd_Ways_leastByOneMore_29 (fun x8 => fr_pc (pc' := 32) rfl ?_)
        refine fp_iload_n (i := 3) (x := b3.2) dd_Ways_leastByOneMore_32 rfl rfl (fr_pc (pc' := 33) rfl ?_)
        refine fr_aI0 dd_Ways_leastByOneMore_33 (fun x9 => fr_pc (pc' := 34) rfl ?_)
        refine fr_if_lt (tgt := 64) dd_Ways_leastByOneMore_34 rfl (fun _ => ?_) (fun _ => ?_)
        · refine fr_niinc (i := 3) (x := b3.2) (w := (1 : Int32)) dd_Ways_leastByOneMore_64 rfl (by decide) (Nat.le_of_ble_eq_true rfl) (fun _ => c1_i rfl) (fun y11 => fr_to (pc' := 67) (env' := [some (sf_rv p0), some (.int p1), some (.int b3.1), some (.int y11), some (.int x5)]) (stk' := []) rfl rfl rfl ?_)
          refine fp_goto (tgt := 9) dd_Ways_leastByOneMore_67 rfl ?_
          refine fr_wk [true, true, true, true, false] ?_
          exact fr_ret rfl
        · refine fr_pc (pc' := 37) rfl ?_
          refine fp_iload_n (i := 2) (x := b3.1) dd_Ways_leastByOneMore_37 rfl rfl (fr_pc (pc' := 38) rfl ?_)
          refine fr_or (l1 := (fun (v17 : (Int32)) => sf_p 54 [some (sf_rv p0), some (.int p1), some (.int b3.1), some (.int v17), some (.int x5)] [])) ?_ (fun v17 => ?_)
          · refine fr_if_lt (tgt := 54) dd_Ways_leastByOneMore_38 rfl (fun _ => ?_) (fun _ => ?_)
            · exact fr_ret rfl
            · refine fr_pc (pc' := 41) rfl ?_
              refine fp_iload (i := 4) (x := x5) dd_Ways_leastByOneMore_41 rfl (fr_pc (pc' := 43) rfl ?_)
              refine fp_aload_n (i := 0) (r := p0) dd_Ways_leastByOneMore_43 rfl rfl (fr_pc (pc' := 44) rfl ?_)
              refine fr_gR cl_10 3 (by decide) rfl sw_151 dd_Ways_leastByOneMore_44 (fun x13 => fr_pc (pc' := 47) rfl ?_)
              refine fp_iload_n (i := 3) (x := b3.2) dd_Ways_leastByOneMore_47 rfl rfl (fr_pc (pc' := 48) rfl ?_)
              refine fr_aI0 dd_Ways_leastByOneMore_48 (fun x14 => fr_pc (pc' := 49) rfl ?_)
              refine fp_iadd dd_Ways_leastByOneMore_49 (fr_pc (pc' := 50) rfl ?_)
              refine fp_iload_n (i := 2) (x := b3.1) dd_Ways_leastByOneMore_50 rfl rfl (fr_pc (pc' := 51) rfl ?_)
              refine fr_icmp_ge (tgt := 64) dd_Ways_leastByOneMore_51 rfl (fun _ => ?_) (fun _ => ?_)
              · refine fr_niinc (i := 3) (x := b3.2) (w := (1 : Int32)) dd_Ways_leastByOneMore_64 rfl (by decide) (Nat.le_of_ble_eq_true rfl) (fun _ => c1_i rfl) (fun y16 => fr_to (pc' := 67) (env' := [some (sf_rv p0), some (.int p1), some (.int b3.1), some (.int y16), some (.int x5)]) (stk' := []) rfl rfl rfl ?_)
                refine fp_goto (tgt := 9) dd_Ways_leastByOneMore_67 rfl ?_
                refine fr_wk [true, true, true, true, false] ?_
                exact fr_ret rfl
              · refine fr_pc (pc' := 54) rfl ?_
                exact fr_ret rfl
          · refine fp_iload (i := 4) (x := x5) dd_Ways_leastByOneMore_54 rfl (fr_pc (pc' := 56) rfl ?_)
            refine fp_aload_n (i := 0) (r := p0) dd_Ways_leastByOneMore_56 rfl rfl (fr_pc (pc' := 57) rfl ?_)
            refine fr_gR cl_10 3 (by decide) rfl sw_151 dd_Ways_leastByOneMore_57 (fun x18 => fr_pc (pc' := 60) rfl ?_)
            refine fp_iload_n (i := 3) (x := v17) dd_Ways_leastByOneMore_60 rfl rfl (fr_pc (pc' := 61) rfl ?_)
            refine fr_aI0 dd_Ways_leastByOneMore_61 (fun x19 => fr_pc (pc' := 62) rfl ?_)
            refine fp_iadd dd_Ways_leastByOneMore_62 (fr_pc (pc' := 63) rfl ?_)
            refine fr_nistore_n (i := 2) dd_Ways_leastByOneMore_63 rfl (Nat.le_of_ble_eq_true rfl) (fun _ => c1_i rfl) (fun y20 => fr_to (pc' := 64) (env' := [some (sf_rv p0), some (.int p1), some (.int y20), some (.int v17), some (.int x5)]) (stk' := []) rfl rfl rfl ?_)
            refine fr_niinc (i := 3) (x := v17) (w := (1 : Int32)) dd_Ways_leastByOneMore_64 rfl (by decide) (Nat.le_of_ble_eq_true rfl) (fun _ => c1_i rfl) (fun y21 => fr_to (pc' := 67) (env' := [some (sf_rv p0), some (.int p1), some (.int y20), some (.int y21), some (.int x5)]) (stk' := []) rfl rfl rfl ?_)
            refine fp_goto (tgt := 9) dd_Ways_leastByOneMore_67 rfl ?_
            refine fr_wk [true, true, true, true, false] ?_
            exact fr_ret rfl
  · refine fp_iload_n (i := 2) (x := e22) dd_Ways_leastByOneMore_70 rfl rfl (fr_pc (pc' := 71) rfl ?_)
    exact fr_iret (v := e22) rfl rfl dd_Ways_leastByOneMore_71
theorem mt_Ways_least : sf_Mt ({ cls := "SplitFares$Ways", name := "least", desc := "(III)I" } : Jvm.MethodName) prog_11_method_7_code 7 (some .int) 3 := ⟨sw_812, sw_6, ⟨by decide, by decide, by decide +kernel⟩, by decide⟩
theorem dd_Ways_least_0 : decode prog_11_method_7_code 0 = .ok (.iload_n 1, 1) := by decide +kernel
theorem dd_Ways_least_1 : decode prog_11_method_7_code 1 = .ok (.iload_n 2, 1) := by decide +kernel
theorem dd_Ways_least_2 : decode prog_11_method_7_code 2 = .ok (.invokestatic 61, 3) := by decide +kernel
theorem dd_Ways_least_5 : decode prog_11_method_7_code 5 = .ok (.ifCond .ne 5, 3) := by decide +kernel
theorem dd_Ways_least_8 : decode prog_11_method_7_code 8 = .ok (.iconst (-1), 1) := by decide +kernel
theorem dd_Ways_least_9 : decode prog_11_method_7_code 9 = .ok (.ireturn, 1) := by decide +kernel
theorem dd_Ways_least_10 : decode prog_11_method_7_code 10 = .ok (.aload_n 0, 1) := by decide +kernel
theorem dd_Ways_least_11 : decode prog_11_method_7_code 11 = .ok (.getfield 21, 3) := by decide +kernel
theorem dd_Ways_least_14 : decode prog_11_method_7_code 14 = .ok (.iconst (-1), 1) := by decide +kernel
theorem dd_Ways_least_15 : decode prog_11_method_7_code 15 = .ok (.invokestatic 65, 3) := by decide +kernel
theorem dd_Ways_least_18 : decode prog_11_method_7_code 18 = .ok (.aload_n 0, 1) := by decide +kernel
theorem dd_Ways_least_19 : decode prog_11_method_7_code 19 = .ok (.getfield 21, 3) := by decide +kernel
theorem dd_Ways_least_22 : decode prog_11_method_7_code 22 = .ok (.iload_n 2, 1) := by decide +kernel
theorem dd_Ways_least_23 : decode prog_11_method_7_code 23 = .ok (.iconst 0, 1) := by decide +kernel
theorem dd_Ways_least_24 : decode prog_11_method_7_code 24 = .ok (.iastore, 1) := by decide +kernel
theorem dd_Ways_least_25 : decode prog_11_method_7_code 25 = .ok (.iconst 1, 1) := by decide +kernel
theorem dd_Ways_least_26 : decode prog_11_method_7_code 26 = .ok (.istore 4, 2) := by decide +kernel
theorem dd_Ways_least_28 : decode prog_11_method_7_code 28 = .ok (.iconst 0, 1) := by decide +kernel
theorem dd_Ways_least_29 : decode prog_11_method_7_code 29 = .ok (.istore 5, 2) := by decide +kernel
theorem dd_Ways_least_31 : decode prog_11_method_7_code 31 = .ok (.iload 5, 2) := by decide +kernel
theorem dd_Ways_least_33 : decode prog_11_method_7_code 33 = .ok (.iload_n 3, 1) := by decide +kernel
theorem dd_Ways_least_34 : decode prog_11_method_7_code 34 = .ok (.if_icmp .ge 90, 3) := by decide +kernel
theorem dd_Ways_least_37 : decode prog_11_method_7_code 37 = .ok (.iload 4, 2) := by decide +kernel
theorem dd_Ways_least_39 : decode prog_11_method_7_code 39 = .ok (.ifCond .eq 85, 3) := by decide +kernel
theorem dd_Ways_least_42 : decode prog_11_method_7_code 42 = .ok (.iconst 0, 1) := by decide +kernel
theorem dd_Ways_least_43 : decode prog_11_method_7_code 43 = .ok (.istore 4, 2) := by decide +kernel
theorem dd_Ways_least_45 : decode prog_11_method_7_code 45 = .ok (.iconst 0, 1) := by decide +kernel
theorem dd_Ways_least_46 : decode prog_11_method_7_code 46 = .ok (.istore 6, 2) := by decide +kernel
theorem dd_Ways_least_48 : decode prog_11_method_7_code 48 = .ok (.iload 6, 2) := by decide +kernel
theorem dd_Ways_least_50 : decode prog_11_method_7_code 50 = .ok (.bipush 8, 2) := by decide +kernel
theorem dd_Ways_least_52 : decode prog_11_method_7_code 52 = .ok (.if_icmp .ge 51, 3) := by decide +kernel
theorem dd_Ways_least_55 : decode prog_11_method_7_code 55 = .ok (.aload_n 0, 1) := by decide +kernel
theorem dd_Ways_least_56 : decode prog_11_method_7_code 56 = .ok (.getfield 24, 3) := by decide +kernel
theorem dd_Ways_least_59 : decode prog_11_method_7_code 59 = .ok (.iload 6, 2) := by decide +kernel
theorem dd_Ways_least_61 : decode prog_11_method_7_code 61 = .ok (.aload_n 0, 1) := by decide +kernel
theorem dd_Ways_least_62 : decode prog_11_method_7_code 62 = .ok (.iload 6, 2) := by decide +kernel
theorem dd_Ways_least_64 : decode prog_11_method_7_code 64 = .ok (.invokevirtual 71, 3) := by decide +kernel
theorem dd_Ways_least_67 : decode prog_11_method_7_code 67 = .ok (.iastore, 1) := by decide +kernel
theorem dd_Ways_least_68 : decode prog_11_method_7_code 68 = .ok (.iload 4, 2) := by decide +kernel
theorem dd_Ways_least_70 : decode prog_11_method_7_code 70 = .ok (.ifCond .ne 20, 3) := by decide +kernel
theorem dd_Ways_least_73 : decode prog_11_method_7_code 73 = .ok (.aload_n 0, 1) := by decide +kernel
theorem dd_Ways_least_74 : decode prog_11_method_7_code 74 = .ok (.getfield 24, 3) := by decide +kernel
theorem dd_Ways_least_77 : decode prog_11_method_7_code 77 = .ok (.iload 6, 2) := by decide +kernel
theorem dd_Ways_least_79 : decode prog_11_method_7_code 79 = .ok (.iaload, 1) := by decide +kernel
theorem dd_Ways_least_80 : decode prog_11_method_7_code 80 = .ok (.aload_n 0, 1) := by decide +kernel
theorem dd_Ways_least_81 : decode prog_11_method_7_code 81 = .ok (.getfield 21, 3) := by decide +kernel
theorem dd_Ways_least_84 : decode prog_11_method_7_code 84 = .ok (.iload 6, 2) := by decide +kernel
theorem dd_Ways_least_86 : decode prog_11_method_7_code 86 = .ok (.iaload, 1) := by decide +kernel
theorem dd_Ways_least_87 : decode prog_11_method_7_code 87 = .ok (.if_icmp .eq 7, 3) := by decide +kernel
theorem dd_Ways_least_94 : decode prog_11_method_7_code 94 = .ok (.iconst 0, 1) := by decide +kernel
theorem dd_Ways_least_90 : decode prog_11_method_7_code 90 = .ok (.iconst 1, 1) := by decide +kernel
theorem dd_Ways_least_91 : decode prog_11_method_7_code 91 = .ok (.goto 4, 3) := by decide +kernel
theorem dd_Ways_least_95 : decode prog_11_method_7_code 95 = .ok (.istore 4, 2) := by decide +kernel
theorem dd_Ways_least_97 : decode prog_11_method_7_code 97 = .ok (.iinc 6 1, 3) := by decide +kernel
theorem dd_Ways_least_100 : decode prog_11_method_7_code 100 = .ok (.goto (-52), 3) := by decide +kernel
theorem dd_Ways_least_103 : decode prog_11_method_7_code 103 = .ok (.aload_n 0, 1) := by decide +kernel
theorem dd_Ways_least_104 : decode prog_11_method_7_code 104 = .ok (.getfield 24, 3) := by decide +kernel
theorem dd_Ways_least_107 : decode prog_11_method_7_code 107 = .ok (.iconst 0, 1) := by decide +kernel
theorem dd_Ways_least_108 : decode prog_11_method_7_code 108 = .ok (.aload_n 0, 1) := by decide +kernel
theorem dd_Ways_least_109 : decode prog_11_method_7_code 109 = .ok (.getfield 21, 3) := by decide +kernel
theorem dd_Ways_least_112 : decode prog_11_method_7_code 112 = .ok (.iconst 0, 1) := by decide +kernel
theorem dd_Ways_least_113 : decode prog_11_method_7_code 113 = .ok (.bipush 8, 2) := by decide +kernel
theorem dd_Ways_least_115 : decode prog_11_method_7_code 115 = .ok (.invokestatic 75, 3) := by decide +kernel
theorem dd_Ways_least_118 : decode prog_11_method_7_code 118 = .ok (.iinc 5 1, 3) := by decide +kernel
theorem dd_Ways_least_121 : decode prog_11_method_7_code 121 = .ok (.goto (-90), 3) := by decide +kernel
theorem dd_Ways_least_124 : decode prog_11_method_7_code 124 = .ok (.aload_n 0, 1) := by decide +kernel
theorem dd_Ways_least_125 : decode prog_11_method_7_code 125 = .ok (.getfield 21, 3) := by decide +kernel
theorem dd_Ways_least_128 : decode prog_11_method_7_code 128 = .ok (.iload_n 1, 1) := by decide +kernel
theorem dd_Ways_least_129 : decode prog_11_method_7_code 129 = .ok (.iaload, 1) := by decide +kernel
theorem dd_Ways_least_130 : decode prog_11_method_7_code 130 = .ok (.ireturn, 1) := by decide +kernel
def jx_Ways_least (p0 : Option Nat) (p1 : Int32) (p2 : Int32) (p3 : Int32) : sf_M (Int32) :=
  sf_bnd (jx_SF_isLeg p1 p2) fun x1 =>
  if x1 = 0 then (
  sf_ret (-1 : Int32)
  ) else (
  sf_bnd (sf_gR 10 3 p0) fun x3 =>
  sf_bnd (jx_Arrays_fillI x3 (-1 : Int32)) fun _ =>
  sf_bnd (sf_gR 10 3 p0) fun x5 =>
  sf_bnd (sf_sI 0 x5 p2 (0 : Int32)) fun _ =>
  sf_bnd (sf_loop (β := (Int32 × Int32)) (γ := (Unit)) (fun b6 =>
  if p3 ≤ b6.2 then (
  sf_ret (.inr ())
  ) else (
  if b6.1 = 0 then (
  sf_ret (.inr ())
  ) else (
  sf_bnd (sf_loop (β := (Int32 × Int32)) (γ := (Int32)) (fun b9 =>
  if (8 : Int32) ≤ b9.2 then (
  sf_ret (.inr b9.1)
  ) else (
  sf_bnd (sf_gR 10 4 p0) fun x11 =>
  sf_bnd (sf_rc 10 p0 (jx_Ways_leastByOneMore p0 b9.2)) fun x12 =>
  sf_bnd (sf_sI 0 x11 b9.2 x12) fun _ =>
  if b9.1 = 0 then (
  sf_bnd (sf_gR 10 4 p0) fun x14 =>
  sf_bnd (sf_aI 0 x14 b9.2) fun x15 =>
  sf_bnd (sf_gR 10 3 p0) fun x16 =>
  sf_bnd (sf_aI 0 x16 b9.2) fun x17 =>
  if x15 = x17 then (
  sf_bnd (sf_ret (b9.2 + (1 : Int32))) fun y19 =>
  sf_ret (.inl ((0 : Int32), y19))
  ) else (
  sf_bnd (sf_ret (b9.2 + (1 : Int32))) fun y20 =>
  sf_ret (.inl ((1 : Int32), y20))
  )
  ) else (
  sf_bnd (sf_ret (b9.2 + (1 : Int32))) fun y21 =>
  sf_ret (.inl ((1 : Int32), y21))
  )
  )
  ) sf_fuel ((0 : Int32), (0 : Int32))) (fun e22 =>
  sf_bnd (sf_gR 10 4 p0) fun x23 =>
  sf_bnd (sf_gR 10 3 p0) fun x24 =>
  sf_bnd (sf_cpI x23 (0 : Int32) x24 (0 : Int32) (8 : Int32)) fun _ =>
  sf_bnd (sf_ret (b6.2 + (1 : Int32))) fun y25 =>
  sf_ret (.inl (e22, y25))
  )
  )
  )
  ) sf_fuel ((1 : Int32), (0 : Int32))) (fun e26 =>
  sf_bnd (sf_gR 10 3 p0) fun x27 =>
  sf_bnd (sf_aI 0 x27 p1) fun x28 =>
  sf_ret x28
  )
  )
set_option maxRecDepth 20000 in
set_option maxHeartbeats 4000000 in
theorem ok_Ways_least (p0 : Option Nat) (p1 : Int32) (p2 : Int32) (p3 : Int32) : sf_Ok ({ cls := "SplitFares$Ways", name := "least", desc := "(III)I" } : Jvm.MethodName) prog_11_method_7_code 7 (some .int) 2 [sf_rv p0, .int p1, .int p2, .int p3] (jx_Ways_least p0 p1 p2 p3) (fun r => some (.int r)) := by
  refine sf_Ok.of (env := [some (sf_rv p0), some (.int p1), some (.int p2), some (.int p3), none, none, none]) (plainFor_of_name (by decide)) [false, false, false, false] (fun G => ⟨pk_r, pk_i, pk_i, pk_i, trivial⟩) (Nat.le_of_ble_eq_true rfl) rfl (fun X => ?_)
  unfold jx_Ways_least
  refine fp_iload_n (i := 1) (x := p1) dd_Ways_least_0 rfl rfl (fr_pc (pc' := 1) rfl ?_)
  refine fp_iload_n (i := 2) (x := p2) dd_Ways_least_1 rfl rfl (fr_pc (pc' := 2) rfl ?_)
  refine fr_callSN (stk := []) (ok_SF_isLeg p1 p2) mt_SF_isLeg rfl rfl sn_813 sw_398 (by decide) (Nat.le_of_ble_eq_true rfl) dd_Ways_least_2 (fun x1 => fr_to (pc' := 5) (env' := [some (sf_rv p0), some (.int p1), some (.int p2), some (.int p3), none, none, none]) (stk' := [.int x1]) rfl rfl rfl ?_)
  refine fr_if_ne (tgt := 10) dd_Ways_least_5 rfl (fun _ => ?_) (fun _ => ?_)
  · refine fr_pc (pc' := 8) rfl ?_
    refine fp_iconst (v := (-1 : Int32)) dd_Ways_least_8 (by decide) (fr_pc (pc' := 9) rfl ?_)
    exact fr_iret (v := (-1 : Int32)) rfl rfl dd_Ways_least_9
  · refine fp_aload_n (i := 0) (r := p0) dd_Ways_least_10 rfl rfl (fr_pc (pc' := 11) rfl ?_)
    refine fr_gR cl_10 3 (by decide) rfl sw_151 dd_Ways_least_11 (fun x3 => fr_pc (pc' := 14) rfl ?_)
    refine fp_iconst (v := (-1 : Int32)) dd_Ways_least_14 (by decide) (fr_pc (pc' := 15) rfl ?_)
    refine fr_callS (stk := []) (ok_Arrays_fillI x3 (-1 : Int32)) mt_Arrays_fillI rfl rfl sw_814 sw_815 (by decide) (Nat.le_of_ble_eq_true rfl) dd_Ways_least_15 (fun u4 => fr_to (pc' := 18) (env' := [some (sf_rv p0), some (.int p1), some (.int p2), some (.int p3), none, none, none]) (stk' := []) rfl rfl rfl ?_)
    refine fp_aload_n (i := 0) (r := p0) dd_Ways_least_18 rfl rfl (fr_pc (pc' := 19) rfl ?_)
    refine fr_gR cl_10 3 (by decide) rfl sw_151 dd_Ways_least_19 (fun x5 => fr_pc (pc' := 22) rfl ?_)
    refine fp_iload_n (i := 2) (x := p2) dd_Ways_least_22 rfl rfl (fr_pc (pc' := 23) rfl ?_)
    refine fp_iconst (v := (0 : Int32)) dd_Ways_least_23 (by decide) (fr_pc (pc' := 24) rfl ?_)
    refine fr_sI0 dd_Ways_least_24 (fr_pc (pc' := 25) rfl ?_)
    refine fp_iconst (v := (1 : Int32)) dd_Ways_least_25 (by decide) (fr_pc (pc' := 26) rfl ?_)
    refine fp_istore (i := 4) dd_Ways_least_26 (Nat.le_of_ble_eq_true rfl) (fun _ => c1_i rfl) (fr_to (pc' := 28) (env' := [some (sf_rv p0), some (.int p1), some (.int p2), some (.int p3), some (.int (1 : Int32)), none, none]) (stk' := []) rfl rfl rfl ?_)
    refine fp_iconst (v := (0 : Int32)) dd_Ways_least_28 (by decide) (fr_pc (pc' := 29) rfl ?_)
    refine fp_istore (i := 5) dd_Ways_least_29 (Nat.le_of_ble_eq_true rfl) (fun _ => c1_i rfl) (fr_to (pc' := 31) (env' := [some (sf_rv p0), some (.int p1), some (.int p2), some (.int p3), some (.int (1 : Int32)), some (.int (0 : Int32)), none]) (stk' := []) rfl rfl rfl ?_)
    refine fr_to (pc' := 31) (env' := [some (sf_rv p0), some (.int p1), some (.int p2), some (.int p3), some (.int (1 : Int32)), some (.int (0 : Int32)), none]) (stk' := []) rfl rfl rfl ?_
    refine fr_bnd (l1 := (fun (e26 : (Unit)) => sf_p 124 [some (sf_rv p0), some (.int p1), some (.int p2), some (.int p3), none, none, none] [])) (fr_loop (Lb := (fun (b6 : (Int32 × Int32)) => sf_p 31 [some (sf_rv p0), some (.int p1), some (.int p2), some (.int p3), some (.int b6.1), some (.int b6.2), none] [])) (fun b6 => ?_) _ _) (fun e26 => ?_)
    · refine fp_iload (i := 5) (x := b6.2) dd_Ways_least_31 rfl (fr_pc (pc' := 33) rfl ?_)
      refine fp_iload_n (i := 3) (x := p3) dd_Ways_least_33 rfl rfl (fr_pc (pc' := 34) rfl ?_)
      refine fr_icmp_ge (tgt := 124) dd_Ways_least_34 rfl (fun _ => ?_) (fun _ => ?_)
      · refine fr_wk [true, true, true, true, false, false, false] ?_
        exact fr_ret rfl
      · refine fr_pc (pc' := 37) rfl ?_
        refine fp_iload (i := 4) (x := b6.1) dd_Ways_least_37 rfl (fr_pc (pc' := 39) rfl ?_)
        refine fr_if_eq (tgt := 124) dd_Ways_least_39 rfl (fun _ => ?_) (fun _ => ?_)
        · refine fr_wk [true, true, true, true, false, false, false] ?_
          exact fr_ret rfl
        · refine fr_pc (pc' := 42) rfl ?_
          refine fp_iconst (v := (0 : Int32)) dd_Ways_least_42 (by decide) (fr_pc (pc' := 43) rfl ?_)
          refine fp_istore (i := 4) dd_Ways_least_43 (Nat.le_of_ble_eq_true rfl) (fun _ => c1_i rfl) (fr_to (pc' := 45) (env' := [some (sf_rv p0), some (.int p1), some (.int p2), some (.int p3), some (.int (0 : Int32)), some (.int b6.2), none]) (stk' := []) rfl rfl rfl ?_)
          refine fp_iconst (v := (0 : Int32)) dd_Ways_least_45 (by decide) (fr_pc (pc' := 46) rfl ?_)
          refine fp_istore (i := 6) dd_Ways_least_46 (Nat.le_of_ble_eq_true rfl) (fun _ => c1_i rfl) (fr_to (pc' := 48) (env' := [some (sf_rv p0), some (.int p1), some (.int p2), some (.int p3), some (.int (0 : Int32)), some (.int b6.2), some (.int (0 : Int32))]) (stk' := []) rfl rfl rfl ?_)
          refine fr_to (pc' := 48) (env' := [some (sf_rv p0), some (.int p1), some (.int p2), some (.int p3), some (.int (0 : Int32)), some (.int b6.2), some (.int (0 : Int32))]) (stk' := []) rfl rfl rfl ?_
          refine fr_bnd (l1 := (fun (e22 : (Int32)) => sf_p 103 [some (sf_rv p0), some (.int p1), some (.int p2), some (.int p3), some (.int e22), some (.int b6.2), none] [])) (fr_loop (Lb := (fun (b9 : (Int32 × Int32)) => sf_p 48 [some (sf_rv p0), some (.int p1), some (.int p2), some (.int p3), some (.int b9.1), some (.int b6.2), some (.int b9.2)] [])) (fun b9 => ?_) _ _) (fun e22 => ?_)
          · refine fp_iload (i := 6) (x := b9.2) dd_Ways_least_48 rfl (fr_pc (pc' := 50) rfl ?_)
            refine fp_bipush (v := (8 : Int32)) dd_Ways_least_50 (by decide) (fr_pc (pc' := 52) rfl ?_)
            refine fr_icmp_ge (tgt := 103) dd_Ways_least_52 rfl (fun _ => ?_) (fun _ => ?_)
            · refine fr_wk [true, true, true, true, true, true, false] ?_
              exact fr_ret rfl
            · refine fr_pc (pc' := 55) rfl ?_
              refine fp_aload_n (i := 0) (r := p0) dd_Ways_least_55 rfl rfl (fr_pc (pc' := 56) rfl ?_)
              refine fr_gR cl_10 4 (by decide) rfl sw_152 dd_Ways_least_56 (fun x11 => fr_pc (pc' := 59) rfl ?_)
              refine fp_iload (i := 6) (x := b9.2) dd_Ways_least_59 rfl (fr_pc (pc' := 61) rfl ?_)
              refine fp_aload_n (i := 0) (r := p0) dd_Ways_least_61 rfl rfl (fr_pc (pc' := 62) rfl ?_)
              refine fp_iload (i := 6) (x := b9.2) dd_Ways_least_62 rfl (fr_pc (pc' := 64) rfl ?_)
              refine fr_callV (stk := [.int b9.2, sf_rv x11]) (As := [.int b9.2]) cl_10 (ok_Ways_leastByOneMore p0 b9.2) mt_Ways_leastByOneMore rfl rfl sw_817 sw_819 sp_19 (by decide) (Nat.le_of_ble_eq_true rfl) dd_Ways_least_64 (fun x12 => fr_to (pc' := 67) (env' := [some (sf_rv p0), some (.int p1), some (.int p2), some (.int p3), some (.int b9.1), some (.int b6.2), some (.int b9.2)]) (stk' := [.int x12, .int b9.2, sf_rv x11]) rfl rfl rfl ?_)
              refine fr_sI0 dd_Ways_least_67 (fr_pc (pc' := 68) rfl ?_)
              refine fp_iload (i := 4) (x := b9.1) dd_Ways_least_68 rfl (fr_pc (pc' := 70) rfl ?_)
              refine fr_if_ne (tgt := 90) dd_Ways_least_70 rfl (fun _ => ?_) (fun _ => ?_)
              · refine fr_pc (pc' := 73) rfl ?_
                refine fp_aload_n (i := 0) (r := p0) dd_Ways_least_73 rfl rfl (fr_pc (pc' := 74) rfl ?_)
                refine fr_gR cl_10 4 (by decide) rfl sw_152 dd_Ways_least_74 (fun x14 => fr_pc (pc' := 77) rfl ?_)
                refine fp_iload (i := 6) (x := b9.2) dd_Ways_least_77 rfl (fr_pc (pc' := 79) rfl ?_)
                refine fr_aI0 dd_Ways_least_79 (fun x15 => fr_pc (pc' := 80) rfl ?_)
                refine fp_aload_n (i := 0) (r := p0) dd_Ways_least_80 rfl rfl (fr_pc (pc' := 81) rfl ?_)
                refine fr_gR cl_10 3 (by decide) rfl sw_151 dd_Ways_least_81 (fun x16 => fr_pc (pc' := 84) rfl ?_)
                refine fp_iload (i := 6) (x := b9.2) dd_Ways_least_84 rfl (fr_pc (pc' := 86) rfl ?_)
                refine fr_aI0 dd_Ways_least_86 (fun x17 => fr_pc (pc' := 87) rfl ?_)
                refine fr_icmp_eq (tgt := 94) dd_Ways_least_87 rfl (fun _ => ?_) (fun _ => ?_)
                · refine fp_iconst (v := (0 : Int32)) dd_Ways_least_94 (by decide) (fr_pc (pc' := 95) rfl ?_)
                  refine fp_istore (i := 4) dd_Ways_least_95 (Nat.le_of_ble_eq_true rfl) (fun _ => c1_i rfl) (fr_to (pc' := 97) (env' := [some (sf_rv p0), some (.int p1), some (.int p2), some (.int p3), some (.int (0 : Int32)), some (.int b6.2), some (.int b9.2)]) (stk' := []) rfl rfl rfl ?_)
                  refine fr_niinc (i := 6) (x := b9.2) (w := (1 : Int32)) dd_Ways_least_97 rfl (by decide) (Nat.le_of_ble_eq_true rfl) (fun _ => c1_i rfl) (fun y19 => fr_to (pc' := 100) (env' := [some (sf_rv p0), some (.int p1), some (.int p2), some (.int p3), some (.int (0 : Int32)), some (.int b6.2), some (.int y19)]) (stk' := []) rfl rfl rfl ?_)
                  refine fp_goto (tgt := 48) dd_Ways_least_100 rfl ?_
                  exact fr_ret rfl
                · refine fr_pc (pc' := 90) rfl ?_
                  refine fp_iconst (v := (1 : Int32)) dd_Ways_least_90 (by decide) (fr_pc (pc' := 91) rfl ?_)
                  refine fp_goto (tgt := 95) dd_Ways_least_91 rfl ?_
                  refine fp_istore (i := 4) dd_Ways_least_95 (Nat.le_of_ble_eq_true rfl) (fun _ => c1_i rfl) (fr_to (pc' := 97) (env' := [some (sf_rv p0), some (.int p1), some (.int p2), some (.int p3), some (.int (1 : Int32)), some (.int b6.2), some (.int b9.2)]) (stk' := []) rfl rfl rfl ?_)
                  refine fr_niinc (i := 6) (x := b9.2) (w := (1 : Int32)) dd_Ways_least_97 rfl (by decide) (Nat.le_of_ble_eq_true rfl) (fun _ => c1_i rfl) (fun y20 => fr_to (pc' := 100) (env' := [some (sf_rv p0), some (.int p1), some (.int p2), some (.int p3), some (.int (1 : Int32)), some (.int b6.2), some (.int y20)]) (stk' := []) rfl rfl rfl ?_)
                  refine fp_goto (tgt := 48) dd_Ways_least_100 rfl ?_
                  exact fr_ret rfl
              · refine fp_iconst (v := (1 : Int32)) dd_Ways_least_90 (by decide) (fr_pc (pc' := 91) rfl ?_)
                refine fp_goto (tgt := 95) dd_Ways_least_91 rfl ?_
                refine fp_istore (i := 4) dd_Ways_least_95 (Nat.le_of_ble_eq_true rfl) (fun _ => c1_i rfl) (fr_to (pc' := 97) (env' := [some (sf_rv p0), some (.int p1), some (.int p2), some (.int p3), some (.int (1 : Int32)), some (.int b6.2), some (.int b9.2)]) (stk' := []) rfl rfl rfl ?_)
                refine fr_niinc (i := 6) (x := b9.2) (w := (1 : Int32)) dd_Ways_least_97 rfl (by decide) (Nat.le_of_ble_eq_true rfl) (fun _ => c1_i rfl) (fun y21 => fr_to (pc' := 100) (env' := [some (sf_rv p0), some (.int p1), some (.int p2), some (.int p3), some (.int (1 : Int32)), some (.int b6.2), some (.int y21)]) (stk' := []) rfl rfl rfl ?_)
                refine fp_goto (tgt := 48) dd_Ways_least_100 rfl ?_
                exact fr_ret rfl
          · refine fp_aload_n (i := 0) (r := p0) dd_Ways_least_103 rfl rfl (fr_pc (pc' := 104) rfl ?_)
            refine fr_gR cl_10 4 (by decide) rfl sw_152 dd_Ways_least_104 (fun x23 => fr_pc (pc' := 107) rfl ?_)
            refine fp_iconst (v := (0 : Int32)) dd_Ways_least_107 (by decide) (fr_pc (pc' := 108) rfl ?_)
            refine fp_aload_n (i := 0) (r := p0) dd_Ways_least_108 rfl rfl (fr_pc (pc' := 109) rfl ?_)
            refine fr_gR cl_10 3 (by decide) rfl sw_151 dd_Ways_least_109 (fun x24 => fr_pc (pc' := 112) rfl ?_)
            refine fp_iconst (v := (0 : Int32)) dd_Ways_least_112 (by decide) (fr_pc (pc' := 113) rfl ?_)
            refine fp_bipush (v := (8 : Int32)) dd_Ways_least_113 (by decide) (fr_pc (pc' := 115) rfl ?_)
            refine fr_cpI sw_825 sw_732 sw_731 sw_19 (Nat.le_of_ble_eq_true rfl) (Nat.le_of_ble_eq_true rfl) dd_Ways_least_115 (fr_pc (pc' := 118) rfl ?_)
            refine fr_niinc (i := 5) (x := b6.2) (w := (1 : Int32)) dd_Ways_least_118 rfl (by decide) (Nat.le_of_ble_eq_true rfl) (fun _ => c1_i rfl) (fun y25 => fr_to (pc' := 121) (env' := [some (sf_rv p0), some (.int p1), some (.int p2), some (.int p3), some (.int e22), some (.int y25), none]) (stk' := []) rfl rfl rfl ?_)
            refine fp_goto (tgt := 31) dd_Ways_least_121 rfl ?_
            exact fr_ret rfl
    · refine fp_aload_n (i := 0) (r := p0) dd_Ways_least_124 rfl rfl (fr_pc (pc' := 125) rfl ?_)
      refine fr_gR cl_10 3 (by decide) rfl sw_151 dd_Ways_least_125 (fun x27 => fr_pc (pc' := 128) rfl ?_)
      refine fp_iload_n (i := 1) (x := p1) dd_Ways_least_128 rfl rfl (fr_pc (pc' := 129) rfl ?_)
      refine fr_aI0 dd_Ways_least_129 (fun x28 => fr_pc (pc' := 130) rfl ?_)
      exact fr_iret (v := x28) rfl rfl dd_Ways_least_130
theorem mt_Ways_nextStop : sf_Mt ({ cls := "SplitFares$Ways", name := "nextStop", desc := "(II)I" } : Jvm.MethodName) prog_11_method_9_code 7 (some .int) 2 := ⟨sw_829, sw_6, ⟨by decide, by decide, by decide +kernel⟩, by decide⟩
theorem dd_Ways_nextStop_0 : decode prog_11_method_9_code 0 = .ok (.iload_n 1, 1) := by decide +kernel
theorem dd_Ways_nextStop_1 : decode prog_11_method_9_code 1 = .ok (.iload_n 2, 1) := by decide +kernel
theorem dd_Ways_nextStop_2 : decode prog_11_method_9_code 2 = .ok (.invokestatic 61, 3) := by decide +kernel
theorem dd_Ways_nextStop_5 : decode prog_11_method_9_code 5 = .ok (.ifCond .ne 5, 3) := by decide +kernel
theorem dd_Ways_nextStop_8 : decode prog_11_method_9_code 8 = .ok (.iconst (-1), 1) := by decide +kernel
theorem dd_Ways_nextStop_9 : decode prog_11_method_9_code 9 = .ok (.ireturn, 1) := by decide +kernel
theorem dd_Ways_nextStop_10 : decode prog_11_method_9_code 10 = .ok (.iload_n 2, 1) := by decide +kernel
theorem dd_Ways_nextStop_11 : decode prog_11_method_9_code 11 = .ok (.iload_n 1, 1) := by decide +kernel
theorem dd_Ways_nextStop_12 : decode prog_11_method_9_code 12 = .ok (.if_icmp .le 7, 3) := by decide +kernel
theorem dd_Ways_nextStop_15 : decode prog_11_method_9_code 15 = .ok (.iconst 1, 1) := by decide +kernel
theorem dd_Ways_nextStop_16 : decode prog_11_method_9_code 16 = .ok (.goto 4, 3) := by decide +kernel
theorem dd_Ways_nextStop_19 : decode prog_11_method_9_code 19 = .ok (.iconst (-1), 1) := by decide +kernel
theorem dd_Ways_nextStop_20 : decode prog_11_method_9_code 20 = .ok (.istore_n 3, 1) := by decide +kernel
theorem dd_Ways_nextStop_21 : decode prog_11_method_9_code 21 = .ok (.iconst 1, 1) := by decide +kernel
theorem dd_Ways_nextStop_22 : decode prog_11_method_9_code 22 = .ok (.istore 4, 2) := by decide +kernel
theorem dd_Ways_nextStop_24 : decode prog_11_method_9_code 24 = .ok (.iload 4, 2) := by decide +kernel
theorem dd_Ways_nextStop_26 : decode prog_11_method_9_code 26 = .ok (.iload_n 2, 1) := by decide +kernel
theorem dd_Ways_nextStop_27 : decode prog_11_method_9_code 27 = .ok (.iload_n 1, 1) := by decide +kernel
theorem dd_Ways_nextStop_28 : decode prog_11_method_9_code 28 = .ok (.isub, 1) := by decide +kernel
theorem dd_Ways_nextStop_29 : decode prog_11_method_9_code 29 = .ok (.invokestatic 85, 3) := by decide +kernel
theorem dd_Ways_nextStop_32 : decode prog_11_method_9_code 32 = .ok (.if_icmp .gt 63, 3) := by decide +kernel
theorem dd_Ways_nextStop_35 : decode prog_11_method_9_code 35 = .ok (.iload_n 1, 1) := by decide +kernel
theorem dd_Ways_nextStop_36 : decode prog_11_method_9_code 36 = .ok (.iload 4, 2) := by decide +kernel
theorem dd_Ways_nextStop_38 : decode prog_11_method_9_code 38 = .ok (.iload_n 3, 1) := by decide +kernel
theorem dd_Ways_nextStop_39 : decode prog_11_method_9_code 39 = .ok (.imul, 1) := by decide +kernel
theorem dd_Ways_nextStop_40 : decode prog_11_method_9_code 40 = .ok (.iadd, 1) := by decide +kernel
theorem dd_Ways_nextStop_41 : decode prog_11_method_9_code 41 = .ok (.istore 5, 2) := by decide +kernel
theorem dd_Ways_nextStop_43 : decode prog_11_method_9_code 43 = .ok (.aload_n 0, 1) := by decide +kernel
theorem dd_Ways_nextStop_44 : decode prog_11_method_9_code 44 = .ok (.iload_n 1, 1) := by decide +kernel
theorem dd_Ways_nextStop_45 : decode prog_11_method_9_code 45 = .ok (.iload 5, 2) := by decide +kernel
theorem dd_Ways_nextStop_47 : decode prog_11_method_9_code 47 = .ok (.invokevirtual 81, 3) := by decide +kernel
theorem dd_Ways_nextStop_50 : decode prog_11_method_9_code 50 = .ok (.istore 6, 2) := by decide +kernel
theorem dd_Ways_nextStop_52 : decode prog_11_method_9_code 52 = .ok (.iload 6, 2) := by decide +kernel
theorem dd_Ways_nextStop_54 : decode prog_11_method_9_code 54 = .ok (.ifCond .lt 35, 3) := by decide +kernel
theorem dd_Ways_nextStop_57 : decode prog_11_method_9_code 57 = .ok (.aload_n 0, 1) := by decide +kernel
theorem dd_Ways_nextStop_58 : decode prog_11_method_9_code 58 = .ok (.getfield 21, 3) := by decide +kernel
theorem dd_Ways_nextStop_61 : decode prog_11_method_9_code 61 = .ok (.iload 5, 2) := by decide +kernel
theorem dd_Ways_nextStop_63 : decode prog_11_method_9_code 63 = .ok (.iaload, 1) := by decide +kernel
theorem dd_Ways_nextStop_64 : decode prog_11_method_9_code 64 = .ok (.ifCond .lt 25, 3) := by decide +kernel
theorem dd_Ways_nextStop_67 : decode prog_11_method_9_code 67 = .ok (.iload 6, 2) := by decide +kernel
theorem dd_Ways_nextStop_69 : decode prog_11_method_9_code 69 = .ok (.aload_n 0, 1) := by decide +kernel
theorem dd_Ways_nextStop_70 : decode prog_11_method_9_code 70 = .ok (.getfield 21, 3) := by decide +kernel
theorem dd_Ways_nextStop_73 : decode prog_11_method_9_code 73 = .ok (.iload 5, 2) := by decide +kernel
theorem dd_Ways_nextStop_75 : decode prog_11_method_9_code 75 = .ok (.iaload, 1) := by decide +kernel
theorem dd_Ways_nextStop_76 : decode prog_11_method_9_code 76 = .ok (.iadd, 1) := by decide +kernel
theorem dd_Ways_nextStop_77 : decode prog_11_method_9_code 77 = .ok (.aload_n 0, 1) := by decide +kernel
theorem dd_Ways_nextStop_78 : decode prog_11_method_9_code 78 = .ok (.getfield 21, 3) := by decide +kernel
theorem dd_Ways_nextStop_81 : decode prog_11_method_9_code 81 = .ok (.iload_n 1, 1) := by decide +kernel
theorem dd_Ways_nextStop_82 : decode prog_11_method_9_code 82 = .ok (.iaload, 1) := by decide +kernel
theorem dd_Ways_nextStop_83 : decode prog_11_method_9_code 83 = .ok (.if_icmp .ne 6, 3) := by decide +kernel
theorem dd_Ways_nextStop_86 : decode prog_11_method_9_code 86 = .ok (.iload 5, 2) := by decide +kernel
theorem dd_Ways_nextStop_88 : decode prog_11_method_9_code 88 = .ok (.ireturn, 1) := by decide +kernel
theorem dd_Ways_nextStop_89 : decode prog_11_method_9_code 89 = .ok (.iinc 4 1, 3) := by decide +kernel
theorem dd_Ways_nextStop_92 : decode prog_11_method_9_code 92 = .ok (.goto (-68), 3) := by decide +kernel
theorem dd_Ways_nextStop_95 : decode prog_11_method_9_code 95 = .ok (.iconst (-1), 1) := by decide +kernel
theorem dd_Ways_nextStop_96 : decode prog_11_method_9_code 96 = .ok (.ireturn, 1) := by decide +kernel
def jx_Ways_nextStop (p0 : Option Nat) (p1 : Int32) (p2 : Int32) : sf_M (Int32) :=
  sf_bnd (jx_SF_isLeg p1 p2) fun x1 =>
  if x1 = 0 then (
  sf_ret (-1 : Int32)
  ) else (
  sf_bnd (α := (Int32)) (
  if p2 ≤ p1 then (
  sf_ret (-1 : Int32)
  ) else (
  sf_ret (1 : Int32)
  )
  ) (fun v4 =>
  sf_or (α := Int32) (β := (Unit)) (sf_loop (β := (Int32)) (γ := (Int32 ⊕ (Unit))) (fun b5 =>
  sf_bnd (jx_Math_abs (p2 - p1)) fun x6 =>
  if x6 < b5 then (
  sf_ret (.inr (.inr ()))
  ) else (
  sf_bnd (sf_ret ((p1 + (b5 * v4)))) fun y8 =>
  sf_bnd (sf_rc 10 p0 (jx_Ways_legOf p0 p1 y8)) fun x9 =>
  if x9 < 0 then (
  sf_bnd (sf_ret (b5 + (1 : Int32))) fun y11 =>
  sf_ret (.inl y11)
  ) else (
  sf_bnd (sf_gR 10 3 p0) fun x12 =>
  sf_bnd (sf_aI 0 x12 y8) fun x13 =>
  if x13 < 0 then (
  sf_bnd (sf_ret (b5 + (1 : Int32))) fun y15 =>
  sf_ret (.inl y15)
  ) else (
  sf_bnd (sf_gR 10 3 p0) fun x16 =>
  sf_bnd (sf_aI 0 x16 y8) fun x17 =>
  sf_bnd (sf_gR 10 3 p0) fun x18 =>
  sf_bnd (sf_aI 0 x18 p1) fun x19 =>
  if (x9 + x17) = x19 then (
  sf_ret (.inr (.inl y8))
  ) else (
  sf_bnd (sf_ret (b5 + (1 : Int32))) fun y21 =>
  sf_ret (.inl y21)
  )
  )
  )
  )
  ) sf_fuel (1 : Int32)) (fun e22 =>
  sf_ret (-1 : Int32)
  )
  )
  )
set_option maxRecDepth 20000 in
set_option maxHeartbeats 4000000 in
theorem ok_Ways_nextStop (p0 : Option Nat) (p1 : Int32) (p2 : Int32) : sf_Ok ({ cls := "SplitFares$Ways", name := "nextStop", desc := "(II)I" } : Jvm.MethodName) prog_11_method_9_code 7 (some .int) 2 [sf_rv p0, .int p1, .int p2] (jx_Ways_nextStop p0 p1 p2) (fun r => some (.int r)) := by
  refine sf_Ok.of (env := [some (sf_rv p0), some (.int p1), some (.int p2), none, none, none, none]) (plainFor_of_name (by decide)) [false, false, false] (fun G => ⟨pk_r, pk_i, pk_i, trivial⟩) (Nat.le_of_ble_eq_true rfl) rfl (fun X => ?_)
  unfold jx_Ways_nextStop
  refine fp_iload_n (i := 1) (x := p1) dd_Ways_nextStop_0 rfl rfl (fr_pc (pc' := 1) rfl ?_)
  refine fp_iload_n (i := 2) (x := p2) dd_Ways_nextStop_1 rfl rfl (fr_pc (pc' := 2) rfl ?_)
  refine fr_callSN (stk := []) (ok_SF_isLeg p1 p2) mt_SF_isLeg rfl rfl sn_813 sw_398 (by decide) (Nat.le_of_ble_eq_true rfl) dd_Ways_nextStop_2 (fun x1 => fr_to (pc' := 5) (env' := [some (sf_rv p0), some (.int p1), some (.int p2), none, none, none, none]) (stk' := [.int x1]) rfl rfl rfl ?_)
  refine fr_if_ne (tgt := 10) dd_Ways_nextStop_5 rfl (fun _ => ?_) (fun _ => ?_)
  · refine fr_pc (pc' := 8) rfl ?_
    refine fp_iconst (v := (-1 : Int32)) dd_Ways_nextStop_8 (by decide) (fr_pc (pc' := 9) rfl ?_)
    exact fr_iret (v := (-1 : Int32)) rfl rfl dd_Ways_nextStop_9
  · refine fp_iload_n (i := 2) (x := p2) dd_Ways_nextStop_10 rfl rfl (fr_pc (pc' := 11) rfl ?_)
    refine fp_iload_n (i := 1) (x := p1) dd_Ways_nextStop_11 rfl rfl (fr_pc (pc' := 12) rfl ?_)
    refine fr_bnd (l1 := (fun (v4 : (Int32)) => sf_p 20 [some (sf_rv p0), some (.int p1), some (.int p2), none, none, none, none] [.int v4])) ?_ (fun v4 => ?_)
    · refine fr_icmp_le (tgt := 19) dd_Ways_nextStop_12 rfl (fun _ => ?_) (fun _ => ?_)
      · refine fp_iconst (v := (-1 : Int32)) dd_Ways_nextStop_19 (by decide) (fr_pc (pc' := 20) rfl ?_)
        exact fr_ret rfl
      · refine fr_pc (pc' := 15) rfl ?_
        refine fp_iconst (v := (1 : Int32)) dd_Ways_nextStop_15 (by decide) (fr_pc (pc' := 16) rfl ?_)
        refine fp_goto (tgt := 20) dd_Ways_nextStop_16 rfl ?_
        exact fr_ret rfl
    · refine fp_istore_n (i := 3) dd_Ways_nextStop_20 rfl (Nat.le_of_ble_eq_true rfl) (fun _ => c1_i rfl) (fr_to (pc' := 21) (env' := [some (sf_rv p0), some (.int p1), some (.int p2), some (.int v4), none, none, none]) (stk' := []) rfl rfl rfl ?_)
      refine fp_iconst (v := (1 : Int32)) dd_Ways_nextStop_21 (by decide) (fr_pc (pc' := 22) rfl ?_)
      refine fp_istore (i := 4) dd_Ways_nextStop_22 (Nat.le_of_ble_eq_true rfl) (fun _ => c1_i rfl) (fr_to (pc' := 24) (env' := [some (sf_rv p0), some (.int p1), some (.int p2), some (.int v4), some (.int (1 : Int32)), none, none]) (stk' := []) rfl rfl rfl ?_)
      refine fr_to (pc' := 24) (env' := [some (sf_rv p0), some (.int p1), some (.int p2), some (.int v4), some (.int (1 : Int32)), none, none]) (stk' := []) rfl rfl rfl ?_
      refine fr_or (l1 := (fun (e22 : (Unit)) => sf_p 95 [some (sf_rv p0), some (.int p1), some (.int p2), some (.int v4), none, none, none] [])) (fr_loop (Lb := (fun (b5 : (Int32)) => sf_p 24 [some (sf_rv p0), some (.int p1), some (.int p2), some (.int v4), some (.int b5), none, none] [])) (fun b5 => ?_) _ _) (fun e22 => ?_)
      · refine fp_iload (i := 4) (x := b5) dd_Ways_nextStop_24 rfl (fr_pc (pc' := 26) rfl ?_)
        refine fp_iload_n (i := 2) (x := p2) dd_Ways_nextStop_26 rfl rfl (fr_pc (pc' := 27) rfl ?_)
        refine fp_iload_n (i := 1) (x := p1) dd_Ways_nextStop_27 rfl rfl (fr_pc (pc' := 28) rfl ?_)
        refine fp_isub dd_Ways_nextStop_28 (fr_pc (pc' := 29) rfl ?_)
        refine fr_callS (stk := [.int b5]) (ok_Math_abs (p2 - p1)) mt_Math_abs rfl rfl sw_830 sw_416 (by decide) (Nat.le_of_ble_eq_true rfl) dd_Ways_nextStop_29 (fun x6 => fr_to (pc' := 32) (env' := [some (sf_rv p0), some (.int p1), some (.int p2), some (.int v4), some (.int b5), none, none]) (stk' := [.int x6, .int b5]) rfl rfl rfl ?_)
        refine fr_icmp_gt (tgt := 95) dd_Ways_nextStop_32 rfl (fun _ => ?_) (fun _ => ?_)
        · refine fr_wk [true, true, true, true, false, false, false] ?_
          exact fr_ret rfl
        · refine fr_pc (pc' := 35) rfl ?_
          refine fp_iload_n (i := 1) (x := p1) dd_Ways_nextStop_35 rfl rfl (fr_pc (pc' := 36) rfl ?_)
          refine fp_iload (i := 4) (x := b5) dd_Ways_nextStop_36 rfl (fr_pc (pc' := 38) rfl ?_)
          refine fp_iload_n (i := 3) (x := v4) dd_Ways_nextStop_38 rfl rfl (fr_pc (pc' := 39) rfl ?_)
          refine fp_imul dd_Ways_nextStop_39 (fr_pc (pc' := 40) rfl ?_)
          refine fp_iadd dd_Ways_nextStop_40 (fr_pc (pc' := 41) rfl ?_)
          refine fr_nistore (i := 5) dd_Ways_nextStop_41 (Nat.le_of_ble_eq_true rfl) (fun _ => c1_i rfl) (fun y8 => fr_to (pc' := 43) (env' := [some (sf_rv p0), some (.int p1), some (.int p2), some (.int v4), some (.int b5), some (.int y8), none]) (stk' := []) rfl rfl rfl ?_)
          refine fp_aload_n (i := 0) (r := p0) dd_Ways_nextStop_43 rfl rfl (fr_pc (pc' := 44) rfl ?_)
          refine fp_iload_n (i := 1) (x := p1) dd_Ways_nextStop_44 rfl rfl (fr_pc (pc' := 45) rfl ?_)
          refine fp_iload (i := 5) (x := y8) dd_Ways_nextStop_45 rfl (fr_pc (pc' := 47) rfl ?_)
          refine fr_callV (stk := []) (As := [.int p1, .int y8]) cl_10 (ok_Ways_legOf p0 p1 y8) mt_Ways_legOf rfl rfl sw_821 sw_823 sp_20 (by decide) (Nat.le_of_ble_eq_true rfl) dd_Ways_nextStop_47 (fun x9 => fr_to (pc' := 50) (env' := [some (sf_rv p0), some (.int p1), some (.int p2), some (.int v4), some (.int b5), some (.int y8), none]) (stk' := [.int x9]) rfl rfl rfl ?_)
          refine fp_istore (i := 6) dd_Ways_nextStop_50 (Nat.le_of_ble_eq_true rfl) (fun _ => c1_i rfl) (fr_to (pc' := 52) (env' := [some (sf_rv p0), some (.int p1), some (.int p2), some (.int v4), some (.int b5), some (.int y8), some (.int x9)]) (stk' := []) rfl rfl rfl ?_)
          refine fp_iload (i := 6) (x := x9) dd_Ways_nextStop_52 rfl (fr_pc (pc' := 54) rfl ?_)
          refine fr_if_lt (tgt := 89) dd_Ways_nextStop_54 rfl (fun _ => ?_) (fun _ => ?_)
          · refine fr_niinc (i := 4) (x := b5) (w := (1 : Int32)) dd_Ways_nextStop_89 rfl (by decide) (Nat.le_of_ble_eq_true rfl) (fun _ => c1_i rfl) (fun y11 => fr_to (pc' := 92) (env' := [some (sf_rv p0), some (.int p1), some (.int p2), some (.int v4), some (.int y11), some (.int y8), some (.int x9)]) (stk' := []) rfl rfl rfl ?_)
            refine fp_goto (tgt := 24) dd_Ways_nextStop_92 rfl ?_
            refine fr_wk [true, true, true, true, true, false, false] ?_
            exact fr_ret rfl
          · refine fr_pc (pc' := 57) rfl ?_
            refine fp_aload_n (i := 0) (r := p0) dd_Ways_nextStop_57 rfl rfl (fr_pc (pc' := 58) rfl ?_)
            refine fr_gR cl_10 3 (by decide) rfl sw_151 dd_Ways_nextStop_58 (fun x12 => fr_pc (pc' := 61) rfl ?_)
            refine fp_iload (i := 5) (x := y8) dd_Ways_nextStop_61 rfl (fr_pc (pc' := 63) rfl ?_)
            refine fr_aI0 dd_Ways_nextStop_63 (fun x13 => fr_pc (pc' := 64) rfl ?_)
            refine fr_if_lt (tgt := 89) dd_Ways_nextStop_64 rfl (fun _ => ?_) (fun _ => ?_)
            · refine fr_niinc (i := 4) (x := b5) (w := (1 : Int32)) dd_Ways_nextStop_89 rfl (by decide) (Nat.le_of_ble_eq_true rfl) (fun _ => c1_i rfl) (fun y15 => fr_to (pc' := 92) (env' := [some (sf_rv p0), some (.int p1), some (.int p2), some (.int v4), some (.int y15), some (.int y8), some (.int x9)]) (stk' := []) rfl rfl rfl ?_)
              refine fp_goto (tgt := 24) dd_Ways_nextStop_92 rfl ?_
              refine fr_wk [true, true, true, true, true, false, false] ?_
              exact fr_ret rfl
            · refine fr_pc (pc' := 67) rfl ?_
              refine fp_iload (i := 6) (x := x9) dd_Ways_nextStop_67 rfl (fr_pc (pc' := 69) rfl ?_)
              refine fp_aload_n (i := 0) (r := p0) dd_Ways_nextStop_69 rfl rfl (fr_pc (pc' := 70) rfl ?_)
              refine fr_gR cl_10 3 (by decide) rfl sw_151 dd_Ways_nextStop_70 (fun x16 => fr_pc (pc' := 73) rfl ?_)
              refine fp_iload (i := 5) (x := y8) dd_Ways_nextStop_73 rfl (fr_pc (pc' := 75) rfl ?_)
              refine fr_aI0 dd_Ways_nextStop_75 (fun x17 => fr_pc (pc' := 76) rfl ?_)
              refine fp_iadd dd_Ways_nextStop_76 (fr_pc (pc' := 77) rfl ?_)
              refine fp_aload_n (i := 0) (r := p0) dd_Ways_nextStop_77 rfl rfl (fr_pc (pc' := 78) rfl ?_)
              refine fr_gR cl_10 3 (by decide) rfl sw_151 dd_Ways_nextStop_78 (fun x18 => fr_pc (pc' := 81) rfl ?_)
              refine fp_iload_n (i := 1) (x := p1) dd_Ways_nextStop_81 rfl rfl (fr_pc (pc' := 82) rfl ?_)
              refine fr_aI0 dd_Ways_nextStop_82 (fun x19 => fr_pc (pc' := 83) rfl ?_)
              refine fr_icmp_ne (tgt := 89) dd_Ways_nextStop_83 rfl (fun _ => ?_) (fun _ => ?_)
              · refine fr_pc (pc' := 86) rfl ?_
                refine fp_iload (i := 5) (x := y8) dd_Ways_nextStop_86 rfl (fr_pc (pc' := 88) rfl ?_)
                exact fr_iret (v := y8) rfl rfl dd_Ways_nextStop_88
              · refine fr_niinc (i := 4) (x := b5) (w := (1 : Int32)) dd_Ways_nextStop_89 rfl (by decide) (Nat.le_of_ble_eq_true rfl) (fun _ => c1_i rfl) (fun y21 => fr_to (pc' := 92) (env' := [some (sf_rv p0), some (.int p1), some (.int p2), some (.int v4), some (.int y21), some (.int y8), some (.int x9)]) (stk' := []) rfl rfl rfl ?_)
                refine fp_goto (tgt := 24) dd_Ways_nextStop_92 rfl ?_
                refine fr_wk [true, true, true, true, true, false, false] ?_
                exact fr_ret rfl
      · refine fp_iconst (v := (-1 : Int32)) dd_Ways_nextStop_95 (by decide) (fr_pc (pc' := 96) rfl ?_)
        exact fr_iret (v := (-1 : Int32)) rfl rfl dd_Ways_nextStop_96
theorem mt_Ways_sortOf : sf_Mt ({ cls := "SplitFares$Ways", name := "sortOf", desc := "(II)I" } : Jvm.MethodName) prog_11_method_11_code 3 (some .int) 2 := ⟨sw_834, sw_6, ⟨by decide, by decide, by decide +kernel⟩, by decide⟩
theorem dd_Ways_sortOf_0 : decode prog_11_method_11_code 0 = .ok (.iload_n 1, 1) := by decide +kernel
theorem dd_Ways_sortOf_1 : decode prog_11_method_11_code 1 = .ok (.iload_n 2, 1) := by decide +kernel
theorem dd_Ways_sortOf_2 : decode prog_11_method_11_code 2 = .ok (.invokestatic 61, 3) := by decide +kernel
theorem dd_Ways_sortOf_5 : decode prog_11_method_11_code 5 = .ok (.ifCond .eq 17, 3) := by decide +kernel
theorem dd_Ways_sortOf_8 : decode prog_11_method_11_code 8 = .ok (.aload_n 0, 1) := by decide +kernel
theorem dd_Ways_sortOf_9 : decode prog_11_method_11_code 9 = .ok (.getfield 15, 3) := by decide +kernel
theorem dd_Ways_sortOf_12 : decode prog_11_method_11_code 12 = .ok (.iload_n 1, 1) := by decide +kernel
theorem dd_Ways_sortOf_13 : decode prog_11_method_11_code 13 = .ok (.bipush 8, 2) := by decide +kernel
theorem dd_Ways_sortOf_15 : decode prog_11_method_11_code 15 = .ok (.imul, 1) := by decide +kernel
theorem dd_Ways_sortOf_16 : decode prog_11_method_11_code 16 = .ok (.iload_n 2, 1) := by decide +kernel
theorem dd_Ways_sortOf_17 : decode prog_11_method_11_code 17 = .ok (.iadd, 1) := by decide +kernel
theorem dd_Ways_sortOf_18 : decode prog_11_method_11_code 18 = .ok (.iaload, 1) := by decide +kernel
theorem dd_Ways_sortOf_19 : decode prog_11_method_11_code 19 = .ok (.goto 4, 3) := by decide +kernel
theorem dd_Ways_sortOf_22 : decode prog_11_method_11_code 22 = .ok (.iconst (-1), 1) := by decide +kernel
theorem dd_Ways_sortOf_23 : decode prog_11_method_11_code 23 = .ok (.ireturn, 1) := by decide +kernel
def jx_Ways_sortOf (p0 : Option Nat) (p1 : Int32) (p2 : Int32) : sf_M (Int32) :=
  sf_bnd (jx_SF_isLeg p1 p2) fun x1 =>
  if x1 = 0 then (
  sf_ret (-1 : Int32)
  ) else (
  sf_bnd (sf_gR 10 1 p0) fun x3 =>
  sf_bnd (sf_aI 0 x3 ((p1 * (8 : Int32)) + p2)) fun x4 =>
  sf_ret x4
  )
set_option maxRecDepth 20000 in
set_option maxHeartbeats 4000000 in
theorem ok_Ways_sortOf (p0 : Option Nat) (p1 : Int32) (p2 : Int32) : sf_Ok ({ cls := "SplitFares$Ways", name := "sortOf", desc := "(II)I" } : Jvm.MethodName) prog_11_method_11_code 3 (some .int) 2 [sf_rv p0, .int p1, .int p2] (jx_Ways_sortOf p0 p1 p2) (fun r => some (.int r)) := by
  refine sf_Ok.of (env := [some (sf_rv p0), some (.int p1), some (.int p2)]) (plainFor_of_name (by decide)) [false, false, false] (fun G => ⟨pk_r, pk_i, pk_i, trivial⟩) (Nat.le_of_ble_eq_true rfl) rfl (fun X => ?_)
  unfold jx_Ways_sortOf
  refine fp_iload_n (i := 1) (x := p1) dd_Ways_sortOf_0 rfl rfl (fr_pc (pc' := 1) rfl ?_)
  refine fp_iload_n (i := 2) (x := p2) dd_Ways_sortOf_1 rfl rfl (fr_pc (pc' := 2) rfl ?_)
  refine fr_callSN (stk := []) (ok_SF_isLeg p1 p2) mt_SF_isLeg rfl rfl sn_813 sw_398 (by decide) (Nat.le_of_ble_eq_true rfl) dd_Ways_sortOf_2 (fun x1 => fr_to (pc' := 5) (env' := [some (sf_rv p0), some (.int p1), some (.int p2)]) (stk' := [.int x1]) rfl rfl rfl ?_)
  refine fr_if_eq (tgt := 22) dd_Ways_sortOf_5 rfl (fun _ => ?_) (fun _ => ?_)
  · refine fp_iconst (v := (-1 : Int32)) dd_Ways_sortOf_22 (by decide) (fr_pc (pc' := 23) rfl ?_)
    exact fr_iret (v := (-1 : Int32)) rfl rfl dd_Ways_sortOf_23
  · refine fr_pc (pc' := 8) rfl ?_
    refine fp_aload_n (i := 0) (r := p0) dd_Ways_sortOf_8 rfl rfl (fr_pc (pc' := 9) rfl ?_)
    refine fr_gR cl_10 1 (by decide) rfl sw_149 dd_Ways_sortOf_9 (fun x3 => fr_pc (pc' := 12) rfl ?_)
    refine fp_iload_n (i := 1) (x := p1) dd_Ways_sortOf_12 rfl rfl (fr_pc (pc' := 13) rfl ?_)
    refine fp_bipush (v := (8 : Int32)) dd_Ways_sortOf_13 (by decide) (fr_pc (pc' := 15) rfl ?_)
    refine fp_imul dd_Ways_sortOf_15 (fr_pc (pc' := 16) rfl ?_)
    refine fp_iload_n (i := 2) (x := p2) dd_Ways_sortOf_16 rfl rfl (fr_pc (pc' := 17) rfl ?_)
    refine fp_iadd dd_Ways_sortOf_17 (fr_pc (pc' := 18) rfl ?_)
    refine fr_aI0 dd_Ways_sortOf_18 (fun x4 => fr_pc (pc' := 19) rfl ?_)
    refine fp_goto (tgt := 23) dd_Ways_sortOf_19 rfl ?_
    exact fr_iret (v := x4) rfl rfl dd_Ways_sortOf_23
theorem mt_Ways_fillWithSingles : sf_Mt ({ cls := "SplitFares$Ways", name := "fillWithSingles", desc := "(LSplitFares$Office;I)V" } : Jvm.MethodName) prog_11_method_2_code 7 none 2 := ⟨sw_905, sw_6, ⟨by decide, by decide, by decide +kernel⟩, by decide⟩
theorem dd_Ways_fillWithSingles_0 : decode prog_11_method_2_code 0 = .ok (.iconst 0, 1) := by decide +kernel
theorem dd_Ways_fillWithSingles_1 : decode prog_11_method_2_code 1 = .ok (.istore_n 3, 1) := by decide +kernel
theorem dd_Ways_fillWithSingles_2 : decode prog_11_method_2_code 2 = .ok (.iload_n 3, 1) := by decide +kernel
theorem dd_Ways_fillWithSingles_3 : decode prog_11_method_2_code 3 = .ok (.bipush 64, 2) := by decide +kernel
theorem dd_Ways_fillWithSingles_5 : decode prog_11_method_2_code 5 = .ok (.if_icmp .ge 77, 3) := by decide +kernel
theorem dd_Ways_fillWithSingles_8 : decode prog_11_method_2_code 8 = .ok (.iload_n 3, 1) := by decide +kernel
theorem dd_Ways_fillWithSingles_9 : decode prog_11_method_2_code 9 = .ok (.bipush 8, 2) := by decide +kernel
theorem dd_Ways_fillWithSingles_11 : decode prog_11_method_2_code 11 = .ok (.idiv, 1) := by decide +kernel
theorem dd_Ways_fillWithSingles_12 : decode prog_11_method_2_code 12 = .ok (.istore 4, 2) := by decide +kernel
theorem dd_Ways_fillWithSingles_14 : decode prog_11_method_2_code 14 = .ok (.iload_n 3, 1) := by decide +kernel
theorem dd_Ways_fillWithSingles_15 : decode prog_11_method_2_code 15 = .ok (.bipush 8, 2) := by decide +kernel
theorem dd_Ways_fillWithSingles_17 : decode prog_11_method_2_code 17 = .ok (.irem, 1) := by decide +kernel
theorem dd_Ways_fillWithSingles_18 : decode prog_11_method_2_code 18 = .ok (.istore 5, 2) := by decide +kernel
theorem dd_Ways_fillWithSingles_20 : decode prog_11_method_2_code 20 = .ok (.aload_n 1, 1) := by decide +kernel
theorem dd_Ways_fillWithSingles_21 : decode prog_11_method_2_code 21 = .ok (.iload_n 2, 1) := by decide +kernel
theorem dd_Ways_fillWithSingles_22 : decode prog_11_method_2_code 22 = .ok (.iload 4, 2) := by decide +kernel
theorem dd_Ways_fillWithSingles_24 : decode prog_11_method_2_code 24 = .ok (.iload 5, 2) := by decide +kernel
theorem dd_Ways_fillWithSingles_26 : decode prog_11_method_2_code 26 = .ok (.invokevirtual 27, 3) := by decide +kernel
theorem dd_Ways_fillWithSingles_29 : decode prog_11_method_2_code 29 = .ok (.ifCond .eq 20, 3) := by decide +kernel
theorem dd_Ways_fillWithSingles_32 : decode prog_11_method_2_code 32 = .ok (.aload_n 1, 1) := by decide +kernel
theorem dd_Ways_fillWithSingles_33 : decode prog_11_method_2_code 33 = .ok (.iload_n 2, 1) := by decide +kernel
theorem dd_Ways_fillWithSingles_34 : decode prog_11_method_2_code 34 = .ok (.iconst 0, 1) := by decide +kernel
theorem dd_Ways_fillWithSingles_35 : decode prog_11_method_2_code 35 = .ok (.iload 4, 2) := by decide +kernel
theorem dd_Ways_fillWithSingles_37 : decode prog_11_method_2_code 37 = .ok (.iload 5, 2) := by decide +kernel
theorem dd_Ways_fillWithSingles_39 : decode prog_11_method_2_code 39 = .ok (.invokevirtual 33, 3) := by decide +kernel
theorem dd_Ways_fillWithSingles_42 : decode prog_11_method_2_code 42 = .ok (.ifCond .ne 7, 3) := by decide +kernel
theorem dd_Ways_fillWithSingles_45 : decode prog_11_method_2_code 45 = .ok (.iconst 1, 1) := by decide +kernel
theorem dd_Ways_fillWithSingles_46 : decode prog_11_method_2_code 46 = .ok (.goto 4, 3) := by decide +kernel
theorem dd_Ways_fillWithSingles_49 : decode prog_11_method_2_code 49 = .ok (.iconst 0, 1) := by decide +kernel
theorem dd_Ways_fillWithSingles_50 : decode prog_11_method_2_code 50 = .ok (.istore 6, 2) := by decide +kernel
theorem dd_Ways_fillWithSingles_52 : decode prog_11_method_2_code 52 = .ok (.aload_n 0, 1) := by decide +kernel
theorem dd_Ways_fillWithSingles_53 : decode prog_11_method_2_code 53 = .ok (.getfield 9, 3) := by decide +kernel
theorem dd_Ways_fillWithSingles_56 : decode prog_11_method_2_code 56 = .ok (.iload_n 3, 1) := by decide +kernel
theorem dd_Ways_fillWithSingles_57 : decode prog_11_method_2_code 57 = .ok (.iload 6, 2) := by decide +kernel
theorem dd_Ways_fillWithSingles_59 : decode prog_11_method_2_code 59 = .ok (.ifCond .eq 15, 3) := by decide +kernel
theorem dd_Ways_fillWithSingles_62 : decode prog_11_method_2_code 62 = .ok (.aload_n 1, 1) := by decide +kernel
theorem dd_Ways_fillWithSingles_63 : decode prog_11_method_2_code 63 = .ok (.iconst 0, 1) := by decide +kernel
theorem dd_Ways_fillWithSingles_64 : decode prog_11_method_2_code 64 = .ok (.iload 4, 2) := by decide +kernel
theorem dd_Ways_fillWithSingles_66 : decode prog_11_method_2_code 66 = .ok (.iload 5, 2) := by decide +kernel
theorem dd_Ways_fillWithSingles_68 : decode prog_11_method_2_code 68 = .ok (.invokevirtual 37, 3) := by decide +kernel
theorem dd_Ways_fillWithSingles_71 : decode prog_11_method_2_code 71 = .ok (.goto 4, 3) := by decide +kernel
theorem dd_Ways_fillWithSingles_74 : decode prog_11_method_2_code 74 = .ok (.iconst (-1), 1) := by decide +kernel
theorem dd_Ways_fillWithSingles_75 : decode prog_11_method_2_code 75 = .ok (.iastore, 1) := by decide +kernel
theorem dd_Ways_fillWithSingles_76 : decode prog_11_method_2_code 76 = .ok (.iinc 3 1, 3) := by decide +kernel
theorem dd_Ways_fillWithSingles_79 : decode prog_11_method_2_code 79 = .ok (.goto (-77), 3) := by decide +kernel
theorem dd_Ways_fillWithSingles_82 : decode prog_11_method_2_code 82 = .ok (.return_, 1) := by decide +kernel
def jx_Ways_fillWithSingles (p0 : Option Nat) (p1 : Option Nat) (p2 : Int32) : sf_M (Unit) :=
  sf_bnd (sf_loop (β := (Int32)) (γ := (Unit)) (fun b1 =>
  if (64 : Int32) ≤ b1 then (
  sf_ret (.inr ())
  ) else (
  sf_bnd (sf_ret ((b1 / (8 : Int32)))) fun y3 =>
  sf_bnd (sf_ret ((b1 - b1 / (8 : Int32) * (8 : Int32)))) fun y4 =>
  sf_bnd (sf_rc 4 p1 (jx_Office_goes p1 p2 y3 y4)) fun x5 =>
  sf_bnd (α := (Int32)) (
  sf_or (α := (Int32)) (β := (Unit)) (
  if x5 = 0 then (
  sf_ret (.inr ())
  ) else (
  sf_bnd (sf_rc 4 p1 (jx_Office_bars p1 p2 (0 : Int32) y3 y4)) fun x7 =>
  if x7 = 0 then (
  sf_ret (.inl (1 : Int32))
  ) else (
  sf_ret (.inr ())
  )
  )
  ) (fun v9 =>
  sf_ret (0 : Int32)
  )
  ) (fun v10 =>
  sf_bnd (sf_gR 10 0 p0) fun x11 =>
  sf_bnd (α := (Int32)) (
  if v10 = 0 then (
  sf_ret (-1 : Int32)
  ) else (
  sf_bnd (sf_rc 4 p1 (jx_Office_costOf p1 (0 : Int32) y3 y4)) fun x13 =>
  sf_ret x13
  )
  ) (fun v14 =>
  sf_bnd (sf_sI 0 x11 b1 v14) fun _ =>
  sf_bnd (sf_ret (b1 + (1 : Int32))) fun y15 =>
  sf_ret (.inl y15)
  )
  )
  )
  ) sf_fuel (0 : Int32)) (fun e16 =>
  sf_ret ()
  )
set_option maxRecDepth 20000 in
set_option maxHeartbeats 4000000 in
theorem ok_Ways_fillWithSingles (p0 : Option Nat) (p1 : Option Nat) (p2 : Int32) : sf_Ok ({ cls := "SplitFares$Ways", name := "fillWithSingles", desc := "(LSplitFares$Office;I)V" } : Jvm.MethodName) prog_11_method_2_code 7 none 4 [sf_rv p0, sf_rv p1, .int p2] (jx_Ways_fillWithSingles p0 p1 p2) (fun _ => none) := by
  refine sf_Ok.of (env := [some (sf_rv p0), some (sf_rv p1), some (.int p2), none, none, none, none]) (plainFor_of_name (by decide)) [false, false, false] (fun G => ⟨pk_r, pk_r, pk_i, trivial⟩) (Nat.le_of_ble_eq_true rfl) rfl (fun X => ?_)
  unfold jx_Ways_fillWithSingles
  refine fp_iconst (v := (0 : Int32)) dd_Ways_fillWithSingles_0 (by decide) (fr_pc (pc' := 1) rfl ?_)
  refine fp_istore_n (i := 3) dd_Ways_fillWithSingles_1 rfl (Nat.le_of_ble_eq_true rfl) (fun _ => c1_i rfl) (fr_to (pc' := 2) (env' := [some (sf_rv p0), some (sf_rv p1), some (.int p2), some (.int (0 : Int32)), none, none, none]) (stk' := []) rfl rfl rfl ?_)
  refine fr_to (pc' := 2) (env' := [some (sf_rv p0), some (sf_rv p1), some (.int p2), some (.int (0 : Int32)), none, none, none]) (stk' := []) rfl rfl rfl ?_
  refine fr_bnd (l1 := (fun (e16 : (Unit)) => sf_p 82 [some (sf_rv p0), some (sf_rv p1), some (.int p2), none, none, none, none] [])) (fr_loop (Lb := (fun (b1 : (Int32)) => sf_p 2 [some (sf_rv p0), some (sf_rv p1), some (.int p2), some (.int b1), none, none, none] [])) (fun b1 => ?_) _ _) (fun e16 => ?_)
  · refine fp_iload_n (i := 3) (x := b1) dd_Ways_fillWithSingles_2 rfl rfl (fr_pc (pc' := 3) rfl ?_)
    refine fp_bipush (v := (64 : Int32)) dd_Ways_fillWithSingles_3 (by decide) (fr_pc (pc' := 5) rfl ?_)
    refine fr_icmp_ge (tgt := 82) dd_Ways_fillWithSingles_5 rfl (fun _ => ?_) (fun _ => ?_)
    · refine fr_wk [true, true, true, false, false, false, false] ?_
      exact fr_ret rfl
    · refine fr_pc (pc' := 8) rfl ?_
      refine fp_iload_n (i := 3) (x := b1) dd_Ways_fillWithSingles_8 rfl rfl (fr_pc (pc' := 9) rfl ?_)
      refine fp_bipush (v := (8 : Int32)) dd_Ways_fillWithSingles_9 (by decide) (fr_pc (pc' := 11) rfl ?_)
      refine fp_idiv0 dd_Ways_fillWithSingles_11 (by decide) (fr_pc (pc' := 12) rfl ?_)
      refine fr_nistore (i := 4) dd_Ways_fillWithSingles_12 (Nat.le_of_ble_eq_true rfl) (fun _ => c1_i rfl) (fun y3 => fr_to (pc' := 14) (env' := [some (sf_rv p0), some (sf_rv p1), some (.int p2), some (.int b1), some (.int y3), none, none]) (stk' := []) rfl rfl rfl ?_)
      refine fp_iload_n (i := 3) (x := b1) dd_Ways_fillWithSingles_14 rfl rfl (fr_pc (pc' := 15) rfl ?_)
      refine fp_bipush (v := (8 : Int32)) dd_Ways_fillWithSingles_15 (by decide) (fr_pc (pc' := 17) rfl ?_)
      refine fp_irem0 dd_Ways_fillWithSingles_17 (by decide) (fr_pc (pc' := 18) rfl ?_)
      refine fr_nistore (i := 5) dd_Ways_fillWithSingles_18 (Nat.le_of_ble_eq_true rfl) (fun _ => c1_i rfl) (fun y4 => fr_to (pc' := 20) (env' := [some (sf_rv p0), some (sf_rv p1), some (.int p2), some (.int b1), some (.int y3), some (.int y4), none]) (stk' := []) rfl rfl rfl ?_)
      refine fp_aload_n (i := 1) (r := p1) dd_Ways_fillWithSingles_20 rfl rfl (fr_pc (pc' := 21) rfl ?_)
      refine fp_iload_n (i := 2) (x := p2) dd_Ways_fillWithSingles_21 rfl rfl (fr_pc (pc' := 22) rfl ?_)
      refine fp_iload (i := 4) (x := y3) dd_Ways_fillWithSingles_22 rfl (fr_pc (pc' := 24) rfl ?_)
      refine fp_iload (i := 5) (x := y4) dd_Ways_fillWithSingles_24 rfl (fr_pc (pc' := 26) rfl ?_)
      refine fr_callV (stk := []) (As := [.int p2, .int y3, .int y4]) cl_4 (ok_Office_goes p1 p2 y3 y4) mt_Office_goes rfl rfl sw_802 sw_803 sw_804 (by decide) (Nat.le_of_ble_eq_true rfl) dd_Ways_fillWithSingles_26 (fun x5 => fr_to (pc' := 29) (env' := [some (sf_rv p0), some (sf_rv p1), some (.int p2), some (.int b1), some (.int y3), some (.int y4), none]) (stk' := [.int x5]) rfl rfl rfl ?_)
      refine fr_bnd (l1 := (fun (v10 : (Int32)) => sf_p 50 [some (sf_rv p0), some (sf_rv p1), some (.int p2), some (.int b1), some (.int y3), some (.int y4), none] [.int v10])) ?_ (fun v10 => ?_)
      · refine fr_or (l1 := (fun (v9 : (Unit)) => sf_p 49 [some (sf_rv p0), some (sf_rv p1), some (.int p2), some (.int b1), some (.int y3), some (.int y4), none] [])) ?_ (fun v9 => ?_)
        · refine fr_if_eq (tgt := 49) dd_Ways_fillWithSingles_29 rfl (fun _ => ?_) (fun _ => ?_)
          · exact fr_ret rfl
          · refine fr_pc (pc' := 32) rfl ?_
            refine fp_aload_n (i := 1) (r := p1) dd_Ways_fillWithSingles_32 rfl rfl (fr_pc (pc' := 33) rfl ?_)
            refine fp_iload_n (i := 2) (x := p2) dd_Ways_fillWithSingles_33 rfl rfl (fr_pc (pc' := 34) rfl ?_)
            refine fp_iconst (v := (0 : Int32)) dd_Ways_fillWithSingles_34 (by decide) (fr_pc (pc' := 35) rfl ?_)
            refine fp_iload (i := 4) (x := y3) dd_Ways_fillWithSingles_35 rfl (fr_pc (pc' := 37) rfl ?_)
            refine fp_iload (i := 5) (x := y4) dd_Ways_fillWithSingles_37 rfl (fr_pc (pc' := 39) rfl ?_)
            refine fr_callV (stk := []) (As := [.int p2, .int (0 : Int32), .int y3, .int y4]) cl_4 (ok_Office_bars p1 p2 (0 : Int32) y3 y4) mt_Office_bars rfl rfl sw_808 sw_464 sw_465 (by decide) (Nat.le_of_ble_eq_true rfl) dd_Ways_fillWithSingles_39 (fun x7 => fr_to (pc' := 42) (env' := [some (sf_rv p0), some (sf_rv p1), some (.int p2), some (.int b1), some (.int y3), some (.int y4), none]) (stk' := [.int x7]) rfl rfl rfl ?_)
            refine fr_if_ne (tgt := 49) dd_Ways_fillWithSingles_42 rfl (fun _ => ?_) (fun _ => ?_)
            · refine fr_pc (pc' := 45) rfl ?_
              refine fp_iconst (v := (1 : Int32)) dd_Ways_fillWithSingles_45 (by decide) (fr_pc (pc' := 46) rfl ?_)
              refine fp_goto (tgt := 50) dd_Ways_fillWithSingles_46 rfl ?_
              exact fr_ret rfl
            · exact fr_ret rfl
        · refine fp_iconst (v := (0 : Int32)) dd_Ways_fillWithSingles_49 (by decide) (fr_pc (pc' := 50) rfl ?_)
          exact fr_ret rfl
      · refine fp_istore (i := 6) dd_Ways_fillWithSingles_50 (Nat.le_of_ble_eq_true rfl) (fun _ => c1_i rfl) (fr_to (pc' := 52) (env' := [some (sf_rv p0), some (sf_rv p1), some (.int p2), some (.int b1), some (.int y3), some (.int y4), some (.int v10)]) (stk' := []) rfl rfl rfl ?_)
        refine fp_aload_n (i := 0) (r := p0) dd_Ways_fillWithSingles_52 rfl rfl (fr_pc (pc' := 53) rfl ?_)
        refine fr_gR cl_10 0 (by decide) rfl sw_148 dd_Ways_fillWithSingles_53 (fun x11 => fr_pc (pc' := 56) rfl ?_)
        refine fp_iload_n (i := 3) (x := b1) dd_Ways_fillWithSingles_56 rfl rfl (fr_pc (pc' := 57) rfl ?_)
        refine fp_iload (i := 6) (x := v10) dd_Ways_fillWithSingles_57 rfl (fr_pc (pc' := 59) rfl ?_)
        refine fr_bnd (l1 := (fun (v14 : (Int32)) => sf_p 75 [some (sf_rv p0), some (sf_rv p1), some (.int p2), some (.int b1), some (.int y3), some (.int y4), some (.int v10)] [.int v14, .int b1, sf_rv x11])) ?_ (fun v14 => ?_)
        · refine fr_if_eq (tgt := 74) dd_Ways_fillWithSingles_59 rfl (fun _ => ?_) (fun _ => ?_)
          · refine fp_iconst (v := (-1 : Int32)) dd_Ways_fillWithSingles_74 (by decide) (fr_pc (pc' := 75) rfl ?_)
            exact fr_ret rfl
          · refine fr_pc (pc' := 62) rfl ?_
            refine fp_aload_n (i := 1) (r := p1) dd_Ways_fillWithSingles_62 rfl rfl (fr_pc (pc' := 63) rfl ?_)
            refine fp_iconst (v := (0 : Int32)) dd_Ways_fillWithSingles_63 (by decide) (fr_pc (pc' := 64) rfl ?_)
            refine fp_iload (i := 4) (x := y3) dd_Ways_fillWithSingles_64 rfl (fr_pc (pc' := 66) rfl ?_)
            refine fp_iload (i := 5) (x := y4) dd_Ways_fillWithSingles_66 rfl (fr_pc (pc' := 68) rfl ?_)
            refine fr_callV (stk := [.int b1, sf_rv x11]) (As := [.int (0 : Int32), .int y3, .int y4]) cl_4 (ok_Office_costOf p1 (0 : Int32) y3 y4) mt_Office_costOf rfl rfl sw_906 sw_404 sw_405 (by decide) (Nat.le_of_ble_eq_true rfl) dd_Ways_fillWithSingles_68 (fun x13 => fr_to (pc' := 71) (env' := [some (sf_rv p0), some (sf_rv p1), some (.int p2), some (.int b1), some (.int y3), some (.int y4), some (.int v10)]) (stk' := [.int x13, .int b1, sf_rv x11]) rfl rfl rfl ?_)
            refine fp_goto (tgt := 75) dd_Ways_fillWithSingles_71 rfl ?_
            exact fr_ret rfl
        · refine fr_sI0 dd_Ways_fillWithSingles_75 (fr_pc (pc' := 76) rfl ?_)
          refine fr_niinc (i := 3) (x := b1) (w := (1 : Int32)) dd_Ways_fillWithSingles_76 rfl (by decide) (Nat.le_of_ble_eq_true rfl) (fun _ => c1_i rfl) (fun y15 => fr_to (pc' := 79) (env' := [some (sf_rv p0), some (sf_rv p1), some (.int p2), some (.int y15), some (.int y3), some (.int y4), some (.int v10)]) (stk' := []) rfl rfl rfl ?_)
          refine fp_goto (tgt := 2) dd_Ways_fillWithSingles_79 rfl ?_
          refine fr_wk [true, true, true, true, false, false, false] ?_
          exact fr_ret rfl
  · exact fr_vret rfl rfl dd_Ways_fillWithSingles_82
theorem mt_Ways_endOf : sf_Mt ({ cls := "SplitFares$Ways", name := "endOf", desc := "(III)I" } : Jvm.MethodName) prog_11_method_10_code 6 (some .int) 3 := ⟨sw_911, sw_6, ⟨by decide, by decide, by decide +kernel⟩, by decide⟩
theorem dd_Ways_endOf_0 : decode prog_11_method_10_code 0 = .ok (.iload_n 1, 1) := by decide +kernel
theorem dd_Ways_endOf_1 : decode prog_11_method_10_code 1 = .ok (.istore 4, 2) := by decide +kernel
theorem dd_Ways_endOf_3 : decode prog_11_method_10_code 3 = .ok (.iconst 0, 1) := by decide +kernel
theorem dd_Ways_endOf_4 : decode prog_11_method_10_code 4 = .ok (.istore 5, 2) := by decide +kernel
theorem dd_Ways_endOf_6 : decode prog_11_method_10_code 6 = .ok (.iload 5, 2) := by decide +kernel
theorem dd_Ways_endOf_8 : decode prog_11_method_10_code 8 = .ok (.bipush 8, 2) := by decide +kernel
theorem dd_Ways_endOf_10 : decode prog_11_method_10_code 10 = .ok (.if_icmp .ge 33, 3) := by decide +kernel
theorem dd_Ways_endOf_13 : decode prog_11_method_10_code 13 = .ok (.aload_n 0, 1) := by decide +kernel
theorem dd_Ways_endOf_14 : decode prog_11_method_10_code 14 = .ok (.iload 4, 2) := by decide +kernel
theorem dd_Ways_endOf_16 : decode prog_11_method_10_code 16 = .ok (.iload_n 2, 1) := by decide +kernel
theorem dd_Ways_endOf_17 : decode prog_11_method_10_code 17 = .ok (.invokevirtual 90, 3) := by decide +kernel
theorem dd_Ways_endOf_20 : decode prog_11_method_10_code 20 = .ok (.istore 4, 2) := by decide +kernel
theorem dd_Ways_endOf_22 : decode prog_11_method_10_code 22 = .ok (.iload 4, 2) := by decide +kernel
theorem dd_Ways_endOf_24 : decode prog_11_method_10_code 24 = .ok (.iconst (-1), 1) := by decide +kernel
theorem dd_Ways_endOf_25 : decode prog_11_method_10_code 25 = .ok (.if_icmp .eq 9, 3) := by decide +kernel
theorem dd_Ways_endOf_28 : decode prog_11_method_10_code 28 = .ok (.iload 5, 2) := by decide +kernel
theorem dd_Ways_endOf_30 : decode prog_11_method_10_code 30 = .ok (.iload_n 3, 1) := by decide +kernel
theorem dd_Ways_endOf_31 : decode prog_11_method_10_code 31 = .ok (.if_icmp .ne 6, 3) := by decide +kernel
theorem dd_Ways_endOf_37 : decode prog_11_method_10_code 37 = .ok (.iinc 5 1, 3) := by decide +kernel
theorem dd_Ways_endOf_40 : decode prog_11_method_10_code 40 = .ok (.goto (-34), 3) := by decide +kernel
theorem dd_Ways_endOf_34 : decode prog_11_method_10_code 34 = .ok (.iload 4, 2) := by decide +kernel
theorem dd_Ways_endOf_36 : decode prog_11_method_10_code 36 = .ok (.ireturn, 1) := by decide +kernel
theorem dd_Ways_endOf_43 : decode prog_11_method_10_code 43 = .ok (.iconst (-1), 1) := by decide +kernel
theorem dd_Ways_endOf_44 : decode prog_11_method_10_code 44 = .ok (.ireturn, 1) := by decide +kernel
def jx_Ways_endOf (p0 : Option Nat) (p1 : Int32) (p2 : Int32) (p3 : Int32) : sf_M (Int32) :=
  sf_or (α := Int32) (β := (Unit)) (sf_loop (β := (Int32 × Int32)) (γ := (Int32 ⊕ (Unit))) (fun b1 =>
  if (8 : Int32) ≤ b1.2 then (
  sf_ret (.inr (.inr ()))
  ) else (
  sf_bnd (sf_rc 10 p0 (jx_Ways_nextStop p0 b1.1 p2)) fun x3 =>
  if x3 = (-1 : Int32) then (
  sf_ret (.inr (.inl x3))
  ) else (
  if b1.2 = p3 then (
  sf_ret (.inr (.inl x3))
  ) else (
  sf_bnd (sf_ret (b1.2 + (1 : Int32))) fun y6 =>
  sf_ret (.inl (x3, y6))
  )
  )
  )
  ) sf_fuel (p1, (0 : Int32))) (fun e7 =>
  sf_ret (-1 : Int32)
  )
set_option maxRecDepth 20000 in
set_option maxHeartbeats 4000000 in
theorem ok_Ways_endOf (p0 : Option Nat) (p1 : Int32) (p2 : Int32) (p3 : Int32) : sf_Ok ({ cls := "SplitFares$Ways", name := "endOf", desc := "(III)I" } : Jvm.MethodName) prog_11_method_10_code 6 (some .int) 3 [sf_rv p0, .int p1, .int p2, .int p3] (jx_Ways_endOf p0 p1 p2 p3) (fun r => some (.int r)) := by
  refine sf_Ok.of (env := [some (sf_rv p0), some (.int p1), some (.int p2), some (.int p3), none, none]) (plainFor_of_name (by decide)) [false, false, false, false] (fun G => ⟨pk_r, pk_i, pk_i, pk_i, trivial⟩) (Nat.le_of_ble_eq_true rfl) rfl (fun X => ?_)
  unfold jx_Ways_endOf
  refine fp_iload_n (i := 1) (x := p1) dd_Ways_endOf_0 rfl rfl (fr_pc (pc' := 1) rfl ?_)
  refine fp_istore (i := 4) dd_Ways_endOf_1 (Nat.le_of_ble_eq_true rfl) (fun _ => c1_i rfl) (fr_to (pc' := 3) (env' := [some (sf_rv p0), some (.int p1), some (.int p2), some (.int p3), some (.int p1), none]) (stk' := []) rfl rfl rfl ?_)
  refine fp_iconst (v := (0 : Int32)) dd_Ways_endOf_3 (by decide) (fr_pc (pc' := 4) rfl ?_)
  refine fp_istore (i := 5) dd_Ways_endOf_4 (Nat.le_of_ble_eq_true rfl) (fun _ => c1_i rfl) (fr_to (pc' := 6) (env' := [some (sf_rv p0), some (.int p1), some (.int p2), some (.int p3), some (.int p1), some (.int (0 : Int32))]) (stk' := []) rfl rfl rfl ?_)
  refine fr_to (pc' := 6) (env' := [some (sf_rv p0), some (.int p1), some (.int p2), some (.int p3), some (.int p1), some (.int (0 : Int32))]) (stk' := []) rfl rfl rfl ?_
  refine fr_or (l1 := (fun (e7 : (Unit)) => sf_p 43 [some (sf_rv p0), some (.int p1), some (.int p2), some (.int p3), none, none] [])) (fr_loop (Lb := (fun (b1 : (Int32 × Int32)) => sf_p 6 [some (sf_rv p0), some (.int p1), some (.int p2), some (.int p3), some (.int b1.1), some (.int b1.2)] [])) (fun b1 => ?_) _ _) (fun e7 => ?_)
  · refine fp_iload (i := 5) (x := b1.2) dd_Ways_endOf_6 rfl (fr_pc (pc' := 8) rfl ?_)
    refine fp_bipush (v := (8 : Int32)) dd_Ways_endOf_8 (by decide) (fr_pc (pc' := 10) rfl ?_)
    refine fr_icmp_ge (tgt := 43) dd_Ways_endOf_10 rfl (fun _ => ?_) (fun _ => ?_)
    · refine fr_wk [true, true, true, true, false, false] ?_
      exact fr_ret rfl
    · refine fr_pc (pc' := 13) rfl ?_
      refine fp_aload_n (i := 0) (r := p0) dd_Ways_endOf_13 rfl rfl (fr_pc (pc' := 14) rfl ?_)
      refine fp_iload (i := 4) (x := b1.1) dd_Ways_endOf_14 rfl (fr_pc (pc' := 16) rfl ?_)
      refine fp_iload_n (i := 2) (x := p2) dd_Ways_endOf_16 rfl rfl (fr_pc (pc' := 17) rfl ?_)
      refine fr_callV (stk := []) (As := [.int b1.1, .int p2]) cl_10 (ok_Ways_nextStop p0 b1.1 p2) mt_Ways_nextStop rfl rfl sw_912 sw_827 sw_828 (by decide) (Nat.le_of_ble_eq_true rfl) dd_Ways_endOf_17 (fun x3 => fr_to (pc' := 20) (env' := [some (sf_rv p0), some (.int p1), some (.int p2), some (.int p3), some (.int b1.1), some (.int b1.2)]) (stk' := [.int x3]) rfl rfl rfl ?_)
      refine fp_istore (i := 4) dd_Ways_endOf_20 (Nat.le_of_ble_eq_true rfl) (fun _ => c1_i rfl) (fr_to (pc' := 22) (env' := [some (sf_rv p0), some (.int p1), some (.int p2), some (.int p3), some (.int x3), some (.int b1.2)]) (stk' := []) rfl rfl rfl ?_)
      refine fp_iload (i := 4) (x := x3) dd_Ways_endOf_22 rfl (fr_pc (pc' := 24) rfl ?_)
      refine fp_iconst (v := (-1 : Int32)) dd_Ways_endOf_24 (by decide) (fr_pc (pc' := 25) rfl ?_)
      refine fr_icmp_eq (tgt := 34) dd_Ways_endOf_25 rfl (fun _ => ?_) (fun _ => ?_)
      · refine fp_iload (i := 4) (x := x3) dd_Ways_endOf_34 rfl (fr_pc (pc' := 36) rfl ?_)
        exact fr_iret (v := x3) rfl rfl dd_Ways_endOf_36
      · refine fr_pc (pc' := 28) rfl ?_
        refine fp_iload (i := 5) (x := b1.2) dd_Ways_endOf_28 rfl (fr_pc (pc' := 30) rfl ?_)
        refine fp_iload_n (i := 3) (x := p3) dd_Ways_endOf_30 rfl rfl (fr_pc (pc' := 31) rfl ?_)
        refine fr_icmp_ne (tgt := 37) dd_Ways_endOf_31 rfl (fun _ => ?_) (fun _ => ?_)
        · refine fr_pc (pc' := 34) rfl ?_
          refine fp_iload (i := 4) (x := x3) dd_Ways_endOf_34 rfl (fr_pc (pc' := 36) rfl ?_)
          exact fr_iret (v := x3) rfl rfl dd_Ways_endOf_36
        · refine fr_niinc (i := 5) (x := b1.2) (w := (1 : Int32)) dd_Ways_endOf_37 rfl (by decide) (Nat.le_of_ble_eq_true rfl) (fun _ => c1_i rfl) (fun y6 => fr_to (pc' := 40) (env' := [some (sf_rv p0), some (.int p1), some (.int p2), some (.int p3), some (.int x3), some (.int y6)]) (stk' := []) rfl rfl rfl ?_)
          refine fp_goto (tgt := 6) dd_Ways_endOf_40 rfl ?_
          exact fr_ret rfl
  · refine fp_iconst (v := (-1 : Int32)) dd_Ways_endOf_43 (by decide) (fr_pc (pc' := 44) rfl ?_)
    exact fr_iret (v := (-1 : Int32)) rfl rfl dd_Ways_endOf_44
theorem mt_Ways_howMany : sf_Mt ({ cls := "SplitFares$Ways", name := "howMany", desc := "(II)I" } : Jvm.MethodName) prog_11_method_12_code 9 (some .int) 2 := ⟨sw_928, sw_6, ⟨by decide, by decide, by decide +kernel⟩, by decide⟩
theorem dd_Ways_howMany_0 : decode prog_11_method_12_code 0 = .ok (.iload_n 1, 1) := by decide +kernel
theorem dd_Ways_howMany_1 : decode prog_11_method_12_code 1 = .ok (.iload_n 2, 1) := by decide +kernel
theorem dd_Ways_howMany_2 : decode prog_11_method_12_code 2 = .ok (.invokestatic 61, 3) := by decide +kernel
theorem dd_Ways_howMany_5 : decode prog_11_method_12_code 5 = .ok (.ifCond .ne 5, 3) := by decide +kernel
theorem dd_Ways_howMany_8 : decode prog_11_method_12_code 8 = .ok (.iconst 0, 1) := by decide +kernel
theorem dd_Ways_howMany_9 : decode prog_11_method_12_code 9 = .ok (.ireturn, 1) := by decide +kernel
theorem dd_Ways_howMany_10 : decode prog_11_method_12_code 10 = .ok (.iload_n 2, 1) := by decide +kernel
theorem dd_Ways_howMany_11 : decode prog_11_method_12_code 11 = .ok (.iload_n 1, 1) := by decide +kernel
theorem dd_Ways_howMany_12 : decode prog_11_method_12_code 12 = .ok (.if_icmp .le 7, 3) := by decide +kernel
theorem dd_Ways_howMany_15 : decode prog_11_method_12_code 15 = .ok (.iconst 1, 1) := by decide +kernel
theorem dd_Ways_howMany_16 : decode prog_11_method_12_code 16 = .ok (.goto 4, 3) := by decide +kernel
theorem dd_Ways_howMany_19 : decode prog_11_method_12_code 19 = .ok (.iconst (-1), 1) := by decide +kernel
theorem dd_Ways_howMany_20 : decode prog_11_method_12_code 20 = .ok (.istore_n 3, 1) := by decide +kernel
theorem dd_Ways_howMany_21 : decode prog_11_method_12_code 21 = .ok (.iload_n 2, 1) := by decide +kernel
theorem dd_Ways_howMany_22 : decode prog_11_method_12_code 22 = .ok (.iload_n 1, 1) := by decide +kernel
theorem dd_Ways_howMany_23 : decode prog_11_method_12_code 23 = .ok (.isub, 1) := by decide +kernel
theorem dd_Ways_howMany_24 : decode prog_11_method_12_code 24 = .ok (.invokestatic 85, 3) := by decide +kernel
theorem dd_Ways_howMany_27 : decode prog_11_method_12_code 27 = .ok (.istore 4, 2) := by decide +kernel
theorem dd_Ways_howMany_29 : decode prog_11_method_12_code 29 = .ok (.aload_n 0, 1) := by decide +kernel
theorem dd_Ways_howMany_30 : decode prog_11_method_12_code 30 = .ok (.getfield 24, 3) := by decide +kernel
theorem dd_Ways_howMany_33 : decode prog_11_method_12_code 33 = .ok (.iconst 0, 1) := by decide +kernel
theorem dd_Ways_howMany_34 : decode prog_11_method_12_code 34 = .ok (.invokestatic 65, 3) := by decide +kernel
theorem dd_Ways_howMany_37 : decode prog_11_method_12_code 37 = .ok (.aload_n 0, 1) := by decide +kernel
theorem dd_Ways_howMany_38 : decode prog_11_method_12_code 38 = .ok (.getfield 24, 3) := by decide +kernel
theorem dd_Ways_howMany_41 : decode prog_11_method_12_code 41 = .ok (.iload_n 2, 1) := by decide +kernel
theorem dd_Ways_howMany_42 : decode prog_11_method_12_code 42 = .ok (.iconst 1, 1) := by decide +kernel
theorem dd_Ways_howMany_43 : decode prog_11_method_12_code 43 = .ok (.iastore, 1) := by decide +kernel
theorem dd_Ways_howMany_44 : decode prog_11_method_12_code 44 = .ok (.iconst 1, 1) := by decide +kernel
theorem dd_Ways_howMany_45 : decode prog_11_method_12_code 45 = .ok (.istore 5, 2) := by decide +kernel
theorem dd_Ways_howMany_47 : decode prog_11_method_12_code 47 = .ok (.iload 5, 2) := by decide +kernel
theorem dd_Ways_howMany_49 : decode prog_11_method_12_code 49 = .ok (.iload 4, 2) := by decide +kernel
theorem dd_Ways_howMany_51 : decode prog_11_method_12_code 51 = .ok (.if_icmp .gt 73, 3) := by decide +kernel
theorem dd_Ways_howMany_54 : decode prog_11_method_12_code 54 = .ok (.iload_n 2, 1) := by decide +kernel
theorem dd_Ways_howMany_55 : decode prog_11_method_12_code 55 = .ok (.iload 5, 2) := by decide +kernel
theorem dd_Ways_howMany_57 : decode prog_11_method_12_code 57 = .ok (.iload_n 3, 1) := by decide +kernel
theorem dd_Ways_howMany_58 : decode prog_11_method_12_code 58 = .ok (.imul, 1) := by decide +kernel
theorem dd_Ways_howMany_59 : decode prog_11_method_12_code 59 = .ok (.isub, 1) := by decide +kernel
theorem dd_Ways_howMany_60 : decode prog_11_method_12_code 60 = .ok (.istore 6, 2) := by decide +kernel
theorem dd_Ways_howMany_62 : decode prog_11_method_12_code 62 = .ok (.iconst 0, 1) := by decide +kernel
theorem dd_Ways_howMany_63 : decode prog_11_method_12_code 63 = .ok (.istore 7, 2) := by decide +kernel
theorem dd_Ways_howMany_65 : decode prog_11_method_12_code 65 = .ok (.iload 7, 2) := by decide +kernel
theorem dd_Ways_howMany_67 : decode prog_11_method_12_code 67 = .ok (.iload 5, 2) := by decide +kernel
theorem dd_Ways_howMany_69 : decode prog_11_method_12_code 69 = .ok (.if_icmp .ge 49, 3) := by decide +kernel
theorem dd_Ways_howMany_72 : decode prog_11_method_12_code 72 = .ok (.iload_n 2, 1) := by decide +kernel
theorem dd_Ways_howMany_73 : decode prog_11_method_12_code 73 = .ok (.iload 7, 2) := by decide +kernel
theorem dd_Ways_howMany_75 : decode prog_11_method_12_code 75 = .ok (.iload_n 3, 1) := by decide +kernel
theorem dd_Ways_howMany_76 : decode prog_11_method_12_code 76 = .ok (.imul, 1) := by decide +kernel
theorem dd_Ways_howMany_77 : decode prog_11_method_12_code 77 = .ok (.isub, 1) := by decide +kernel
theorem dd_Ways_howMany_78 : decode prog_11_method_12_code 78 = .ok (.istore 8, 2) := by decide +kernel
theorem dd_Ways_howMany_80 : decode prog_11_method_12_code 80 = .ok (.aload_n 0, 1) := by decide +kernel
theorem dd_Ways_howMany_81 : decode prog_11_method_12_code 81 = .ok (.getfield 24, 3) := by decide +kernel
theorem dd_Ways_howMany_84 : decode prog_11_method_12_code 84 = .ok (.iload 6, 2) := by decide +kernel
theorem dd_Ways_howMany_86 : decode prog_11_method_12_code 86 = .ok (.dup2, 1) := by decide +kernel
theorem dd_Ways_howMany_87 : decode prog_11_method_12_code 87 = .ok (.iaload, 1) := by decide +kernel
theorem dd_Ways_howMany_88 : decode prog_11_method_12_code 88 = .ok (.aload_n 0, 1) := by decide +kernel
theorem dd_Ways_howMany_89 : decode prog_11_method_12_code 89 = .ok (.iload 6, 2) := by decide +kernel
theorem dd_Ways_howMany_91 : decode prog_11_method_12_code 91 = .ok (.iload 8, 2) := by decide +kernel
theorem dd_Ways_howMany_93 : decode prog_11_method_12_code 93 = .ok (.invokevirtual 81, 3) := by decide +kernel
theorem dd_Ways_howMany_96 : decode prog_11_method_12_code 96 = .ok (.ifCond .lt 13, 3) := by decide +kernel
theorem dd_Ways_howMany_99 : decode prog_11_method_12_code 99 = .ok (.aload_n 0, 1) := by decide +kernel
theorem dd_Ways_howMany_100 : decode prog_11_method_12_code 100 = .ok (.getfield 24, 3) := by decide +kernel
theorem dd_Ways_howMany_103 : decode prog_11_method_12_code 103 = .ok (.iload 8, 2) := by decide +kernel
theorem dd_Ways_howMany_105 : decode prog_11_method_12_code 105 = .ok (.iaload, 1) := by decide +kernel
theorem dd_Ways_howMany_106 : decode prog_11_method_12_code 106 = .ok (.goto 4, 3) := by decide +kernel
theorem dd_Ways_howMany_109 : decode prog_11_method_12_code 109 = .ok (.iconst 0, 1) := by decide +kernel
theorem dd_Ways_howMany_110 : decode prog_11_method_12_code 110 = .ok (.iadd, 1) := by decide +kernel
theorem dd_Ways_howMany_111 : decode prog_11_method_12_code 111 = .ok (.iastore, 1) := by decide +kernel
theorem dd_Ways_howMany_112 : decode prog_11_method_12_code 112 = .ok (.iinc 7 1, 3) := by decide +kernel
theorem dd_Ways_howMany_115 : decode prog_11_method_12_code 115 = .ok (.goto (-50), 3) := by decide +kernel
theorem dd_Ways_howMany_118 : decode prog_11_method_12_code 118 = .ok (.iinc 5 1, 3) := by decide +kernel
theorem dd_Ways_howMany_121 : decode prog_11_method_12_code 121 = .ok (.goto (-74), 3) := by decide +kernel
theorem dd_Ways_howMany_124 : decode prog_11_method_12_code 124 = .ok (.aload_n 0, 1) := by decide +kernel
theorem dd_Ways_howMany_125 : decode prog_11_method_12_code 125 = .ok (.getfield 24, 3) := by decide +kernel
theorem dd_Ways_howMany_128 : decode prog_11_method_12_code 128 = .ok (.iload_n 1, 1) := by decide +kernel
theorem dd_Ways_howMany_129 : decode prog_11_method_12_code 129 = .ok (.iaload, 1) := by decide +kernel
theorem dd_Ways_howMany_130 : decode prog_11_method_12_code 130 = .ok (.ireturn, 1) := by decide +kernel
def jx_Ways_howMany (p0 : Option Nat) (p1 : Int32) (p2 : Int32) : sf_M (Int32) :=
  sf_bnd (jx_SF_isLeg p1 p2) fun x1 =>
  if x1 = 0 then (
  sf_ret (0 : Int32)
  ) else (
  sf_bnd (α := (Int32)) (
  if p2 ≤ p1 then (
  sf_ret (-1 : Int32)
  ) else (
  sf_ret (1 : Int32)
  )
  ) (fun v4 =>
  sf_bnd (jx_Math_abs (p2 - p1)) fun x5 =>
  sf_bnd (sf_gR 10 4 p0) fun x6 =>
  sf_bnd (jx_Arrays_fillI x6 (0 : Int32)) fun _ =>
  sf_bnd (sf_gR 10 4 p0) fun x8 =>
  sf_bnd (sf_sI 0 x8 p2 (1 : Int32)) fun _ =>
  sf_bnd (sf_loop (β := (Int32)) (γ := (Unit)) (fun b9 =>
  if x5 < b9 then (
  sf_ret (.inr ())
  ) else (
  sf_bnd (sf_ret ((p2 - (b9 * v4)))) fun y11 =>
  sf_bnd (sf_loop (β := (Int32)) (γ := (Unit)) (fun b12 =>
  if b9 ≤ b12 then (
  sf_ret (.inr ())
  ) else (
  sf_bnd (sf_ret ((p2 - (b12 * v4)))) fun y14 =>
  sf_bnd (sf_gR 10 4 p0) fun x15 =>
  sf_bnd (sf_aI 0 x15 y11) fun x16 =>
  sf_bnd (sf_rc 10 p0 (jx_Ways_legOf p0 y11 y14)) fun x17 =>
  sf_bnd (α := (Int32)) (
  if x17 < 0 then (
  sf_ret (0 : Int32)
  ) else (
  sf_bnd (sf_gR 10 4 p0) fun x19 =>
  sf_bnd (sf_aI 0 x19 y14) fun x20 =>
  sf_ret x20
  )
  ) (fun v21 =>
  sf_bnd (sf_sI 0 x15 y11 (x16 + v21)) fun _ =>
  sf_bnd (sf_ret (b12 + (1 : Int32))) fun y22 =>
  sf_ret (.inl y22)
  )
  )
  ) sf_fuel (0 : Int32)) (fun e23 =>
  sf_bnd (sf_ret (b9 + (1 : Int32))) fun y24 =>
  sf_ret (.inl y24)
  )
  )
  ) sf_fuel (1 : Int32)) (fun e25 =>
  sf_bnd (sf_gR 10 4 p0) fun x26 =>
  sf_bnd (sf_aI 0 x26 p1) fun x27 =>
  sf_ret x27
  )
  )
  )
set_option maxRecDepth 20000 in
set_option maxHeartbeats 4000000 in
theorem ok_Ways_howMany (p0 : Option Nat) (p1 : Int32) (p2 : Int32) : sf_Ok ({ cls := "SplitFares$Ways", name := "howMany", desc := "(II)I" } : Jvm.MethodName) prog_11_method_12_code 9 (some .int) 2 [sf_rv p0, .int p1, .int p2] (jx_Ways_howMany p0 p1 p2) (fun r => some (.int r)) := by
  refine sf_Ok.of (env := [some (sf_rv p0), some (.int p1), some (.int p2), none, none, none, none, none, none]) (plainFor_of_name (by decide)) [false, false, false] (fun G => ⟨pk_r, pk_i, pk_i, trivial⟩) (Nat.le_of_ble_eq_true rfl) rfl (fun X => ?_)
  unfold jx_Ways_howMany
  refine fp_iload_n (i := 1) (x := p1) dd_Ways_howMany_0 rfl rfl (fr_pc (pc' := 1) rfl ?_)
  refine fp_iload_n (i := 2) (x := p2) dd_Ways_howMany_1 rfl rfl (fr_pc (pc' := 2) rfl ?_)
  refine fr_callSN (stk := []) (ok_SF_isLeg p1 p2) mt_SF_isLeg rfl rfl sn_813 sw_398 (by decide) (Nat.le_of_ble_eq_true rfl) dd_Ways_howMany_2 (fun x1 => fr_to (pc' := 5) (env' := [some (sf_rv p0), some (.int p1), some (.int p2), none, none, none, none, none, none]) (stk' := [.int x1]) rfl rfl rfl ?_)
  refine fr_if_ne (tgt := 10) dd_Ways_howMany_5 rfl (fun _ => ?_) (fun _ => ?_)
  · refine fr_pc (pc' := 8) rfl ?_
    refine fp_iconst (v := (0 : Int32)) dd_Ways_howMany_8 (by decide) (fr_pc (pc' := 9) rfl ?_)
    exact fr_iret (v := (0 : Int32)) rfl rfl dd_Ways_howMany_9
  · refine fp_iload_n (i := 2) (x := p2) dd_Ways_howMany_10 rfl rfl (fr_pc (pc' := 11) rfl ?_)
    refine fp_iload_n (i := 1) (x := p1) dd_Ways_howMany_11 rfl rfl (fr_pc (pc' := 12) rfl ?_)
    refine fr_bnd (l1 := (fun (v4 : (Int32)) => sf_p 20 [some (sf_rv p0), some (.int p1), some (.int p2), none, none, none, none, none, none] [.int v4])) ?_ (fun v4 => ?_)
    · refine fr_icmp_le (tgt := 19) dd_Ways_howMany_12 rfl (fun _ => ?_) (fun _ => ?_)
      · refine fp_iconst (v := (-1 : Int32)) dd_Ways_howMany_19 (by decide) (fr_pc (pc' := 20) rfl ?_)
        exact fr_ret rfl
      · refine fr_pc (pc' := 15) rfl ?_
        refine fp_iconst (v := (1 : Int32)) dd_Ways_howMany_15 (by decide) (fr_pc (pc' := 16) rfl ?_)
        refine fp_goto (tgt := 20) dd_Ways_howMany_16 rfl ?_
        exact fr_ret rfl
    · refine fp_istore_n (i := 3) dd_Ways_howMany_20 rfl (Nat.le_of_ble_eq_true rfl) (fun _ => c1_i rfl) (fr_to (pc' := 21) (env' := [some (sf_rv p0), some (.int p1), some (.int p2), some (.int v4), none, none, none, none, none]) (stk' := []) rfl rfl rfl ?_)
      refine fp_iload_n (i := 2) (x := p2) dd_Ways_howMany_21 rfl rfl (fr_pc (pc' := 22) rfl ?_)
      refine fp_iload_n (i := 1) (x := p1) dd_Ways_howMany_22 rfl rfl (fr_pc (pc' := 23) rfl ?_)
      refine fp_isub dd_Ways_howMany_23 (fr_pc (pc' := 24) rfl ?_)
      refine fr_callS (stk := []) (ok_Math_abs (p2 - p1)) mt_Math_abs rfl rfl sw_830 sw_416 (by decide) (Nat.le_of_ble_eq_true rfl) dd_Ways_howMany_24 (fun x5 => fr_to (pc' := 27) (env' := [some (sf_rv p0), some (.int p1), some (.int p2), some (.int v4), none, none, none, none, none]) (stk' := [.int x5]) rfl rfl rfl ?_)
      refine fp_istore (i := 4) dd_Ways_howMany_27 (Nat.le_of_ble_eq_true rfl) (fun _ => c1_i rfl) (fr_to (pc' := 29) (env' := [some (sf_rv p0), some (.int p1), some (.int p2), some (.int v4), some (.int x5), none, none, none, none]) (stk' := []) rfl rfl rfl ?_)
      refine fp_aload_n (i := 0) (r := p0) dd_Ways_howMany_29 rfl rfl (fr_pc (pc' := 30) rfl ?_)
      refine fr_gR cl_10 4 (by decide) rfl sw_152 dd_Ways_howMany_30 (fun x6 => fr_pc (pc' := 33) rfl ?_)
      refine fp_iconst (v := (0 : Int32)) dd_Ways_howMany_33 (by decide) (fr_pc (pc' := 34) rfl ?_)
      refine fr_callS (stk := []) (ok_Arrays_fillI x6 (0 : Int32)) mt_Arrays_fillI rfl rfl sw_814 sw_815 (by decide) (Nat.le_of_ble_eq_true rfl) dd_Ways_howMany_34 (fun u7 => fr_to (pc' := 37) (env' := [some (sf_rv p0), some (.int p1), some (.int p2), some (.int v4), some (.int x5), none, none, none, none]) (stk' := []) rfl rfl rfl ?_)
      refine fp_aload_n (i := 0) (r := p0) dd_Ways_howMany_37 rfl rfl (fr_pc (pc' := 38) rfl ?_)
      refine fr_gR cl_10 4 (by decide) rfl sw_152 dd_Ways_howMany_38 (fun x8 => fr_pc (pc' := 41) rfl ?_)
      refine fp_iload_n (i := 2) (x := p2) dd_Ways_howMany_41 rfl rfl (fr_pc (pc' := 42) rfl ?_)
      refine fp_iconst (v := (1 : Int32)) dd_Ways_howMany_42 (by decide) (fr_pc (pc' := 43) rfl ?_)
      refine fr_sI0 dd_Ways_howMany_43 (fr_pc (pc' := 44) rfl ?_)
      refine fp_iconst (v := (1 : Int32)) dd_Ways_howMany_44 (by decide) (fr_pc (pc' := 45) rfl ?_)
      refine fp_istore (i := 5) dd_Ways_howMany_45 (Nat.le_of_ble_eq_true rfl) (fun _ => c1_i rfl) (fr_to (pc' := 47) (env' := [some (sf_rv p0), some (.int p1), some (.int p2), some (.int v4), some (.int x5), some (.int (1 : Int32)), none, none, none]) (stk' := []) rfl rfl rfl ?_)
      refine fr_to (pc' := 47) (env' := [some (sf_rv p0), some (.int p1), some (.int p2), some (.int v4), some (.int x5), some (.int (1 : Int32)), none, none, none]) (stk' := []) rfl rfl rfl ?_
      refine fr_bnd (l1 := (fun (e25 : (Unit)) => sf_p 124 [some (sf_rv p0), some (.int p1), some (.int p2), some (.int v4), some (.int x5), none, none, none, none] [])) (fr_loop (Lb := (fun (b9 : (Int32)) => sf_p 47 [some (sf_rv p0), some (.int p1), some (.int p2), some (.int v4), some (.int x5), some (.int b9), none, none, none] [])) (fun b9 => ?_) _ _) (fun e25 => ?_)
      · refine fp_iload (i := 5) (x := b9) dd_Ways_howMany_47 rfl (fr_pc (pc' := 49) rfl ?_)
        refine fp_iload (i := 4) (x := x5) dd_Ways_howMany_49 rfl (fr_pc (pc' := 51) rfl ?_)
        refine fr_icmp_gt (tgt := 124) dd_Ways_howMany_51 rfl (fun _ => ?_) (fun _ => ?_)
        · refine fr_wk [true, true, true, true, true, false, false, false, false] ?_
          exact fr_ret rfl
        · refine fr_pc (pc' := 54) rfl ?_
          refine fp_iload_n (i := 2) (x := p2) dd_Ways_howMany_54 rfl rfl (fr_pc (pc' := 55) rfl ?_)
          refine fp_iload (i := 5) (x := b9) dd_Ways_howMany_55 rfl (fr_pc (pc' := 57) rfl ?_)
          refine fp_iload_n (i := 3) (x := v4) dd_Ways_howMany_57 rfl rfl (fr_pc (pc' := 58) rfl ?_)
          refine fp_imul dd_Ways_howMany_58 (fr_pc (pc' := 59) rfl ?_)
          refine fp_isub dd_Ways_howMany_59 (fr_pc (pc' := 60) rfl ?_)
          refine fr_nistore (i := 6) dd_Ways_howMany_60 (Nat.le_of_ble_eq_true rfl) (fun _ => c1_i rfl) (fun y11 => fr_to (pc' := 62) (env' := [some (sf_rv p0), some (.int p1), some (.int p2), some (.int v4), some (.int x5), some (.int b9), some (.int y11), none, none]) (stk' := []) rfl rfl rfl ?_)
          refine fp_iconst (v := (0 : Int32)) dd_Ways_howMany_62 (by decide) (fr_pc (pc' := 63) rfl ?_)
          refine fp_istore (i := 7) dd_Ways_howMany_63 (Nat.le_of_ble_eq_true rfl) (fun _ => c1_i rfl) (fr_to (pc' := 65) (env' := [some (sf_rv p0), some (.int p1), some (.int p2), some (.int v4), some (.int x5), some (.int b9), some (.int y11), some (.int (0 : Int32)), none]) (stk' := []) rfl rfl rfl ?_)
          refine fr_to (pc' := 65) (env' := [some (sf_rv p0), some (.int p1), some (.int p2), some (.int v4), some (.int x5), some (.int b9), some (.int y11), some (.int (0 : Int32)), none]) (stk' := []) rfl rfl rfl ?_
          refine fr_bnd (l1 := (fun (e23 : (Unit)) => sf_p 118 [some (sf_rv p0), some (.int p1), some (.int p2), some (.int v4), some (.int x5), some (.int b9), some (.int y11), none, none] [])) (fr_loop (Lb := (fun (b12 : (Int32)) => sf_p 65 [some (sf_rv p0), some (.int p1), some (.int p2), some (.int v4), some (.int x5), some (.int b9), some (.int y11), some (.int b12), none] [])) (fun b12 => ?_) _ _) (fun e23 => ?_)
          · refine fp_iload (i := 7) (x := b12) dd_Ways_howMany_65 rfl (fr_pc (pc' := 67) rfl ?_)
            refine fp_iload (i := 5) (x := b9) dd_Ways_howMany_67 rfl (fr_pc (pc' := 69) rfl ?_)
            refine fr_icmp_ge (tgt := 118) dd_Ways_howMany_69 rfl (fun _ => ?_) (fun _ => ?_)
            · refine fr_wk [true, true, true, true, true, true, true, false, false] ?_
              exact fr_ret rfl
            · refine fr_pc (pc' := 72) rfl ?_
              refine fp_iload_n (i := 2) (x := p2) dd_Ways_howMany_72 rfl rfl (fr_pc (pc' := 73) rfl ?_)
              refine fp_iload (i := 7) (x := b12) dd_Ways_howMany_73 rfl (fr_pc (pc' := 75) rfl ?_)
              refine fp_iload_n (i := 3) (x := v4) dd_Ways_howMany_75 rfl rfl (fr_pc (pc' := 76) rfl ?_)
              refine fp_imul dd_Ways_howMany_76 (fr_pc (pc' := 77) rfl ?_)
              refine fp_isub dd_Ways_howMany_77 (fr_pc (pc' := 78) rfl ?_)
              refine fr_nistore (i := 8) dd_Ways_howMany_78 (Nat.le_of_ble_eq_true rfl) (fun _ => c1_i rfl) (fun y14 => fr_to (pc' := 80) (env' := [some (sf_rv p0), some (.int p1), some (.int p2), some (.int v4), some (.int x5), some (.int b9), some (.int y11), some (.int b12), some (.int y14)]) (stk' := []) rfl rfl rfl ?_)
              refine fp_aload_n (i := 0) (r := p0) dd_Ways_howMany_80 rfl rfl (fr_pc (pc' := 81) rfl ?_)
              refine fr_gR cl_10 4 (by decide) rfl sw_152 dd_Ways_howMany_81 (fun x15 => fr_pc (pc' := 84) rfl ?_)
              refine fp_iload (i := 6) (x := y11) dd_Ways_howMany_84 rfl (fr_pc (pc' := 86) rfl ?_)
              refine fp_dup2 dd_Ways_howMany_86 (fr_pc (pc' := 87) rfl ?_)
              refine fr_aI0 dd_Ways_howMany_87 (fun x16 => fr_pc (pc' := 88) rfl ?_)
              refine fp_aload_n (i := 0) (r := p0) dd_Ways_howMany_88 rfl rfl (fr_pc (pc' := 89) rfl ?_)
              refine fp_iload (i := 6) (x := y11) dd_Ways_howMany_89 rfl (fr_pc (pc' := 91) rfl ?_)
              refine fp_iload (i := 8) (x := y14) dd_Ways_howMany_91 rfl (fr_pc (pc' := 93) rfl ?_)
              refine fr_callV (stk := [.int x16, .int y11, sf_rv x15]) (As := [.int y11, .int y14]) cl_10 (ok_Ways_legOf p0 y11 y14) mt_Ways_legOf rfl rfl sw_821 sw_823 sp_20 (by decide) (Nat.le_of_ble_eq_true rfl) dd_Ways_howMany_93 (fun x17 => fr_to (pc' := 96) (env' := [some (sf_rv p0), some (.int p1), some (.int p2), some (.int v4), some (.int x5), some (.int b9), some (.int y11), some (.int b12), some (.int y14)]) (stk' := [.int x17, .int x16, .int y11, sf_rv x15]) rfl rfl rfl ?_)
              refine fr_bnd (l1 := (fun (v21 : (Int32)) => sf_p 110 [some (sf_rv p0), some (.int p1), some (.int p2), some (.int v4), some (.int x5), some (.int b9), some (.int y11), some (.int b12), some (.int y14)] [.int v21, .int x16, .int y11, sf_rv x15])) ?_ (fun v21 => ?_)
              · refine fr_if_lt (tgt := 109) dd_Ways_howMany_96 rfl (fun _ => ?_) (fun _ => ?_)
                · refine fp_iconst (v := (0 : Int32)) dd_Ways_howMany_109 (by decide) (fr_pc (pc' := 110) rfl ?_)
                  exact fr_ret rfl
                · refine fr_pc (pc' := 99) rfl ?_
                  refine fp_aload_n (i := 0) (r := p0) dd_Ways_howMany_99 rfl rfl (fr_pc (pc' := 100) rfl ?_)
                  refine fr_gR cl_10 4 (by decide) rfl sw_152 dd_Ways_howMany_100 (fun x19 => fr_pc (pc' := 103) rfl ?_)
                  refine fp_iload (i := 8) (x := y14) dd_Ways_howMany_103 rfl (fr_pc (pc' := 105) rfl ?_)
                  refine fr_aI0 dd_Ways_howMany_105 (fun x20 => fr_pc (pc' := 106) rfl ?_)
                  refine fp_goto (tgt := 110) dd_Ways_howMany_106 rfl ?_
                  exact fr_ret rfl
              · refine fp_iadd dd_Ways_howMany_110 (fr_pc (pc' := 111) rfl ?_)
                refine fr_sI0 dd_Ways_howMany_111 (fr_pc (pc' := 112) rfl ?_)
                refine fr_niinc (i := 7) (x := b12) (w := (1 : Int32)) dd_Ways_howMany_112 rfl (by decide) (Nat.le_of_ble_eq_true rfl) (fun _ => c1_i rfl) (fun y22 => fr_to (pc' := 115) (env' := [some (sf_rv p0), some (.int p1), some (.int p2), some (.int v4), some (.int x5), some (.int b9), some (.int y11), some (.int y22), some (.int y14)]) (stk' := []) rfl rfl rfl ?_)
                refine fp_goto (tgt := 65) dd_Ways_howMany_115 rfl ?_
                refine fr_wk [true, true, true, true, true, true, true, true, false] ?_
                exact fr_ret rfl
          · refine fr_niinc (i := 5) (x := b9) (w := (1 : Int32)) dd_Ways_howMany_118 rfl (by decide) (Nat.le_of_ble_eq_true rfl) (fun _ => c1_i rfl) (fun y24 => fr_to (pc' := 121) (env' := [some (sf_rv p0), some (.int p1), some (.int p2), some (.int v4), some (.int x5), some (.int y24), some (.int y11), none, none]) (stk' := []) rfl rfl rfl ?_)
            refine fp_goto (tgt := 47) dd_Ways_howMany_121 rfl ?_
            refine fr_wk [true, true, true, true, true, true, false, false, false] ?_
            exact fr_ret rfl
      · refine fp_aload_n (i := 0) (r := p0) dd_Ways_howMany_124 rfl rfl (fr_pc (pc' := 125) rfl ?_)
        refine fr_gR cl_10 4 (by decide) rfl sw_152 dd_Ways_howMany_125 (fun x26 => fr_pc (pc' := 128) rfl ?_)
        refine fp_iload_n (i := 1) (x := p1) dd_Ways_howMany_128 rfl rfl (fr_pc (pc' := 129) rfl ?_)
        refine fr_aI0 dd_Ways_howMany_129 (fun x27 => fr_pc (pc' := 130) rfl ?_)
        exact fr_iret (v := x27) rfl rfl dd_Ways_howMany_130
theorem mt_Ways_returnOn : sf_Mt ({ cls := "SplitFares$Ways", name := "returnOn", desc := "(LSplitFares$Office;IIII)I" } : Jvm.MethodName) prog_11_method_5_code 7 (some .int) 5 := ⟨sw_942, sw_6, ⟨by decide, by decide, by decide +kernel⟩, by decide⟩
theorem dd_Ways_returnOn_0 : decode prog_11_method_5_code 0 = .ok (.aload_n 1, 1) := by decide +kernel
theorem dd_Ways_returnOn_1 : decode prog_11_method_5_code 1 = .ok (.iload_n 2, 1) := by decide +kernel
theorem dd_Ways_returnOn_2 : decode prog_11_method_5_code 2 = .ok (.iload 4, 2) := by decide +kernel
theorem dd_Ways_returnOn_4 : decode prog_11_method_5_code 4 = .ok (.iload 5, 2) := by decide +kernel
theorem dd_Ways_returnOn_6 : decode prog_11_method_5_code 6 = .ok (.invokevirtual 27, 3) := by decide +kernel
theorem dd_Ways_returnOn_9 : decode prog_11_method_5_code 9 = .ok (.ifCond .eq 19, 3) := by decide +kernel
theorem dd_Ways_returnOn_12 : decode prog_11_method_5_code 12 = .ok (.aload_n 1, 1) := by decide +kernel
theorem dd_Ways_returnOn_13 : decode prog_11_method_5_code 13 = .ok (.iload_n 3, 1) := by decide +kernel
theorem dd_Ways_returnOn_14 : decode prog_11_method_5_code 14 = .ok (.iload 5, 2) := by decide +kernel
theorem dd_Ways_returnOn_16 : decode prog_11_method_5_code 16 = .ok (.iload 4, 2) := by decide +kernel
theorem dd_Ways_returnOn_18 : decode prog_11_method_5_code 18 = .ok (.invokevirtual 27, 3) := by decide +kernel
theorem dd_Ways_returnOn_21 : decode prog_11_method_5_code 21 = .ok (.ifCond .eq 7, 3) := by decide +kernel
theorem dd_Ways_returnOn_24 : decode prog_11_method_5_code 24 = .ok (.iconst 1, 1) := by decide +kernel
theorem dd_Ways_returnOn_25 : decode prog_11_method_5_code 25 = .ok (.goto 4, 3) := by decide +kernel
theorem dd_Ways_returnOn_28 : decode prog_11_method_5_code 28 = .ok (.iconst 0, 1) := by decide +kernel
theorem dd_Ways_returnOn_29 : decode prog_11_method_5_code 29 = .ok (.istore 6, 2) := by decide +kernel
theorem dd_Ways_returnOn_31 : decode prog_11_method_5_code 31 = .ok (.iload 6, 2) := by decide +kernel
theorem dd_Ways_returnOn_33 : decode prog_11_method_5_code 33 = .ok (.ifCond .eq 29, 3) := by decide +kernel
theorem dd_Ways_returnOn_36 : decode prog_11_method_5_code 36 = .ok (.aload_n 1, 1) := by decide +kernel
theorem dd_Ways_returnOn_37 : decode prog_11_method_5_code 37 = .ok (.iload_n 2, 1) := by decide +kernel
theorem dd_Ways_returnOn_38 : decode prog_11_method_5_code 38 = .ok (.iconst 1, 1) := by decide +kernel
theorem dd_Ways_returnOn_39 : decode prog_11_method_5_code 39 = .ok (.iload 4, 2) := by decide +kernel
theorem dd_Ways_returnOn_41 : decode prog_11_method_5_code 41 = .ok (.iload 5, 2) := by decide +kernel
theorem dd_Ways_returnOn_43 : decode prog_11_method_5_code 43 = .ok (.invokevirtual 33, 3) := by decide +kernel
theorem dd_Ways_returnOn_46 : decode prog_11_method_5_code 46 = .ok (.ifCond .ne 16, 3) := by decide +kernel
theorem dd_Ways_returnOn_49 : decode prog_11_method_5_code 49 = .ok (.aload_n 1, 1) := by decide +kernel
theorem dd_Ways_returnOn_50 : decode prog_11_method_5_code 50 = .ok (.iload_n 3, 1) := by decide +kernel
theorem dd_Ways_returnOn_51 : decode prog_11_method_5_code 51 = .ok (.iconst 1, 1) := by decide +kernel
theorem dd_Ways_returnOn_52 : decode prog_11_method_5_code 52 = .ok (.iload 4, 2) := by decide +kernel
theorem dd_Ways_returnOn_54 : decode prog_11_method_5_code 54 = .ok (.iload 5, 2) := by decide +kernel
theorem dd_Ways_returnOn_56 : decode prog_11_method_5_code 56 = .ok (.invokevirtual 33, 3) := by decide +kernel
theorem dd_Ways_returnOn_59 : decode prog_11_method_5_code 59 = .ok (.ifCond .eq 5, 3) := by decide +kernel
theorem dd_Ways_returnOn_64 : decode prog_11_method_5_code 64 = .ok (.aload_n 1, 1) := by decide +kernel
theorem dd_Ways_returnOn_65 : decode prog_11_method_5_code 65 = .ok (.iconst 1, 1) := by decide +kernel
theorem dd_Ways_returnOn_66 : decode prog_11_method_5_code 66 = .ok (.iload 4, 2) := by decide +kernel
theorem dd_Ways_returnOn_68 : decode prog_11_method_5_code 68 = .ok (.iload 5, 2) := by decide +kernel
theorem dd_Ways_returnOn_70 : decode prog_11_method_5_code 70 = .ok (.invokevirtual 37, 3) := by decide +kernel
theorem dd_Ways_returnOn_73 : decode prog_11_method_5_code 73 = .ok (.ireturn, 1) := by decide +kernel
theorem dd_Ways_returnOn_62 : decode prog_11_method_5_code 62 = .ok (.iconst (-1), 1) := by decide +kernel
theorem dd_Ways_returnOn_63 : decode prog_11_method_5_code 63 = .ok (.ireturn, 1) := by decide +kernel
def jx_Ways_returnOn (p0 : Option Nat) (p1 : Option Nat) (p2 : Int32) (p3 : Int32) (p4 : Int32) (p5 : Int32) : sf_M (Int32) :=
  sf_bnd (sf_rc 4 p1 (jx_Office_goes p1 p2 p4 p5)) fun x1 =>
  sf_bnd (α := (Int32)) (
  sf_or (α := (Int32)) (β := (Unit)) (
  if x1 = 0 then (
  sf_ret (.inr ())
  ) else (
  sf_bnd (sf_rc 4 p1 (jx_Office_goes p1 p3 p5 p4)) fun x3 =>
  if x3 = 0 then (
  sf_ret (.inr ())
  ) else (
  sf_ret (.inl (1 : Int32))
  )
  )
  ) (fun v5 =>
  sf_ret (0 : Int32)
  )
  ) (fun v6 =>
  if v6 = 0 then (
  sf_ret (-1 : Int32)
  ) else (
  sf_bnd (sf_rc 4 p1 (jx_Office_bars p1 p2 (1 : Int32) p4 p5)) fun x8 =>
  if x8 = 0 then (
  sf_bnd (sf_rc 4 p1 (jx_Office_bars p1 p3 (1 : Int32) p4 p5)) fun x10 =>
  if x10 = 0 then (
  sf_bnd (sf_rc 4 p1 (jx_Office_costOf p1 (1 : Int32) p4 p5)) fun x12 =>
  sf_ret x12
  ) else (
  sf_ret (-1 : Int32)
  )
  ) else (
  sf_ret (-1 : Int32)
  )
  )
  )
set_option maxRecDepth 20000 in
set_option maxHeartbeats 4000000 in
theorem ok_Ways_returnOn (p0 : Option Nat) (p1 : Option Nat) (p2 : Int32) (p3 : Int32) (p4 : Int32) (p5 : Int32) : sf_Ok ({ cls := "SplitFares$Ways", name := "returnOn", desc := "(LSplitFares$Office;IIII)I" } : Jvm.MethodName) prog_11_method_5_code 7 (some .int) 4 [sf_rv p0, sf_rv p1, .int p2, .int p3, .int p4, .int p5] (jx_Ways_returnOn p0 p1 p2 p3 p4 p5) (fun r => some (.int r)) := by
  refine sf_Ok.of (env := [some (sf_rv p0), some (sf_rv p1), some (.int p2), some (.int p3), some (.int p4), some (.int p5), none]) (plainFor_of_name (by decide)) [false, false, false, false, false, false] (fun G => ⟨pk_r, pk_r, pk_i, pk_i, pk_i, pk_i, trivial⟩) (Nat.le_of_ble_eq_true rfl) rfl (fun X => ?_)
  unfold jx_Ways_returnOn
  refine fp_aload_n (i := 1) (r := p1) dd_Ways_returnOn_0 rfl rfl (fr_pc (pc' := 1) rfl ?_)
  refine fp_iload_n (i := 2) (x := p2) dd_Ways_returnOn_1 rfl rfl (fr_pc (pc' := 2) rfl ?_)
  refine fp_iload (i := 4) (x := p4) dd_Ways_returnOn_2 rfl (fr_pc (pc' := 4) rfl ?_)
  refine fp_iload (i := 5) (x := p5) dd_Ways_returnOn_4 rfl (fr_pc (pc' := 6) rfl ?_)
  refine fr_callV (stk := []) (As := [.int p2, .int p4, .int p5]) cl_4 (ok_Office_goes p1 p2 p4 p5) mt_Office_goes rfl rfl sw_802 sw_803 sw_804 (by decide) (Nat.le_of_ble_eq_true rfl) dd_Ways_returnOn_6 (fun x1 => fr_to (pc' := 9) (env' := [some (sf_rv p0), some (sf_rv p1), some (.int p2), some (.int p3), some (.int p4), some (.int p5), none]) (stk' := [.int x1]) rfl rfl rfl ?_)
  refine fr_bnd (l1 := (fun (v6 : (Int32)) => sf_p 29 [some (sf_rv p0), some (sf_rv p1), some (.int p2), some (.int p3), some (.int p4), some (.int p5), none] [.int v6])) ?_ (fun v6 => ?_)
  · refine fr_or (l1 := (fun (v5 : (Unit)) => sf_p 28 [some (sf_rv p0), some (sf_rv p1), some (.int p2), some (.int p3), some (.int p4), some (.int p5), none] [])) ?_ (fun v5 => ?_)
    · refine fr_if_eq (tgt := 28) dd_Ways_returnOn_9 rfl (fun _ => ?_) (fun _ => ?_)
      · exact fr_ret rfl
      · refine fr_pc (pc' := 12) rfl ?_
        refine fp_aload_n (i := 1) (r := p1) dd_Ways_returnOn_12 rfl rfl (fr_pc (pc' := 13) rfl ?_)
        refine fp_iload_n (i := 3) (x := p3) dd_Ways_returnOn_13 rfl rfl (fr_pc (pc' := 14) rfl ?_)
        refine fp_iload (i := 5) (x := p5) dd_Ways_returnOn_14 rfl (fr_pc (pc' := 16) rfl ?_)
        refine fp_iload (i := 4) (x := p4) dd_Ways_returnOn_16 rfl (fr_pc (pc' := 18) rfl ?_)
        refine fr_callV (stk := []) (As := [.int p3, .int p5, .int p4]) cl_4 (ok_Office_goes p1 p3 p5 p4) mt_Office_goes rfl rfl sw_802 sw_803 sw_804 (by decide) (Nat.le_of_ble_eq_true rfl) dd_Ways_returnOn_18 (fun x3 => fr_to (pc' := 21) (env' := [some (sf_rv p0), some (sf_rv p1), some (.int p2), some (.int p3), some (.int p4), some (.int p5), none]) (stk' := [.int x3]) rfl rfl rfl ?_)
        refine fr_if_eq (tgt := 28) dd_Ways_returnOn_21 rfl (fun _ => ?_) (fun _ => ?_)
        · exact fr_ret rfl
        · refine fr_pc (pc' := 24) rfl ?_
          refine fp_iconst (v := (1 : Int32)) dd_Ways_returnOn_24 (by decide) (fr_pc (pc' := 25) rfl ?_)
          refine fp_goto (tgt := 29) dd_Ways_returnOn_25 rfl ?_
          exact fr_ret rfl
    · refine fp_iconst (v := (0 : Int32)) dd_Ways_returnOn_28 (by decide) (fr_pc (pc' := 29) rfl ?_)
      exact fr_ret rfl
  · refine fp_istore (i := 6) dd_Ways_returnOn_29 (Nat.le_of_ble_eq_true rfl) (fun _ => c1_i rfl) (fr_to (pc' := 31) (env' := [some (sf_rv p0), some (sf_rv p1), some (.int p2), some (.int p3), some (.int p4), some (.int p5), some (.int v6)]) (stk' := []) rfl rfl rfl ?_)
    refine fp_iload (i := 6) (x := v6) dd_Ways_returnOn_31 rfl (fr_pc (pc' := 33) rfl ?_)
    refine fr_if_eq (tgt := 62) dd_Ways_returnOn_33 rfl (fun _ => ?_) (fun _ => ?_)
    · refine fp_iconst (v := (-1 : Int32)) dd_Ways_returnOn_62 (by decide) (fr_pc (pc' := 63) rfl ?_)
      exact fr_iret (v := (-1 : Int32)) rfl rfl dd_Ways_returnOn_63
    · refine fr_pc (pc' := 36) rfl ?_
      refine fp_aload_n (i := 1) (r := p1) dd_Ways_returnOn_36 rfl rfl (fr_pc (pc' := 37) rfl ?_)
      refine fp_iload_n (i := 2) (x := p2) dd_Ways_returnOn_37 rfl rfl (fr_pc (pc' := 38) rfl ?_)
      refine fp_iconst (v := (1 : Int32)) dd_Ways_returnOn_38 (by decide) (fr_pc (pc' := 39) rfl ?_)
      refine fp_iload (i := 4) (x := p4) dd_Ways_returnOn_39 rfl (fr_pc (pc' := 41) rfl ?_)
      refine fp_iload (i := 5) (x := p5) dd_Ways_returnOn_41 rfl (fr_pc (pc' := 43) rfl ?_)
      refine fr_callV (stk := []) (As := [.int p2, .int (1 : Int32), .int p4, .int p5]) cl_4 (ok_Office_bars p1 p2 (1 : Int32) p4 p5) mt_Office_bars rfl rfl sw_808 sw_464 sw_465 (by decide) (Nat.le_of_ble_eq_true rfl) dd_Ways_returnOn_43 (fun x8 => fr_to (pc' := 46) (env' := [some (sf_rv p0), some (sf_rv p1), some (.int p2), some (.int p3), some (.int p4), some (.int p5), some (.int v6)]) (stk' := [.int x8]) rfl rfl rfl ?_)
      refine fr_if_ne (tgt := 62) dd_Ways_returnOn_46 rfl (fun _ => ?_) (fun _ => ?_)
      · refine fr_pc (pc' := 49) rfl ?_
        refine fp_aload_n (i := 1) (r := p1) dd_Ways_returnOn_49 rfl rfl (fr_pc (pc' := 50) rfl ?_)
        refine fp_iload_n (i := 3) (x := p3) dd_Ways_returnOn_50 rfl rfl (fr_pc (pc' := 51) rfl ?_)
        refine fp_iconst (v := (1 : Int32)) dd_Ways_returnOn_51 (by decide) (fr_pc (pc' := 52) rfl ?_)
        refine fp_iload (i := 4) (x := p4) dd_Ways_returnOn_52 rfl (fr_pc (pc' := 54) rfl ?_)
        refine fp_iload (i := 5) (x := p5) dd_Ways_returnOn_54 rfl (fr_pc (pc' := 56) rfl ?_)
        refine fr_callV (stk := []) (As := [.int p3, .int (1 : Int32), .int p4, .int p5]) cl_4 (ok_Office_bars p1 p3 (1 : Int32) p4 p5) mt_Office_bars rfl rfl sw_808 sw_464 sw_465 (by decide) (Nat.le_of_ble_eq_true rfl) dd_Ways_returnOn_56 (fun x10 => fr_to (pc' := 59) (env' := [some (sf_rv p0), some (sf_rv p1), some (.int p2), some (.int p3), some (.int p4), some (.int p5), some (.int v6)]) (stk' := [.int x10]) rfl rfl rfl ?_)
        refine fr_if_eq (tgt := 64) dd_Ways_returnOn_59 rfl (fun _ => ?_) (fun _ => ?_)
        · refine fp_aload_n (i := 1) (r := p1) dd_Ways_returnOn_64 rfl rfl (fr_pc (pc' := 65) rfl ?_)
          refine fp_iconst (v := (1 : Int32)) dd_Ways_returnOn_65 (by decide) (fr_pc (pc' := 66) rfl ?_)
          refine fp_iload (i := 4) (x := p4) dd_Ways_returnOn_66 rfl (fr_pc (pc' := 68) rfl ?_)
          refine fp_iload (i := 5) (x := p5) dd_Ways_returnOn_68 rfl (fr_pc (pc' := 70) rfl ?_)
          refine fr_callV (stk := []) (As := [.int (1 : Int32), .int p4, .int p5]) cl_4 (ok_Office_costOf p1 (1 : Int32) p4 p5) mt_Office_costOf rfl rfl sw_906 sw_404 sw_405 (by decide) (Nat.le_of_ble_eq_true rfl) dd_Ways_returnOn_70 (fun x12 => fr_to (pc' := 73) (env' := [some (sf_rv p0), some (sf_rv p1), some (.int p2), some (.int p3), some (.int p4), some (.int p5), some (.int v6)]) (stk' := [.int x12]) rfl rfl rfl ?_)
          exact fr_iret (v := x12) rfl rfl dd_Ways_returnOn_73
        · refine fr_pc (pc' := 62) rfl ?_
          refine fp_iconst (v := (-1 : Int32)) dd_Ways_returnOn_62 (by decide) (fr_pc (pc' := 63) rfl ?_)
          exact fr_iret (v := (-1 : Int32)) rfl rfl dd_Ways_returnOn_63
      · refine fp_iconst (v := (-1 : Int32)) dd_Ways_returnOn_62 (by decide) (fr_pc (pc' := 63) rfl ?_)
        exact fr_iret (v := (-1 : Int32)) rfl rfl dd_Ways_returnOn_63
theorem mt_Ways_fillThereAndBack : sf_Mt ({ cls := "SplitFares$Ways", name := "fillThereAndBack", desc := "(LSplitFares$Office;II)V" } : Jvm.MethodName) prog_11_method_4_code 7 none 3 := ⟨sw_936, sw_6, ⟨by decide, by decide, by decide +kernel⟩, by decide⟩
theorem dd_Ways_fillThereAndBack_0 : decode prog_11_method_4_code 0 = .ok (.aload_n 0, 1) := by decide +kernel
theorem dd_Ways_fillThereAndBack_1 : decode prog_11_method_4_code 1 = .ok (.aload_n 1, 1) := by decide +kernel
theorem dd_Ways_fillThereAndBack_2 : decode prog_11_method_4_code 2 = .ok (.iload_n 2, 1) := by decide +kernel
theorem dd_Ways_fillThereAndBack_3 : decode prog_11_method_4_code 3 = .ok (.invokevirtual 50, 3) := by decide +kernel
theorem dd_Ways_fillThereAndBack_6 : decode prog_11_method_4_code 6 = .ok (.iconst 0, 1) := by decide +kernel
theorem dd_Ways_fillThereAndBack_7 : decode prog_11_method_4_code 7 = .ok (.istore 4, 2) := by decide +kernel
theorem dd_Ways_fillThereAndBack_9 : decode prog_11_method_4_code 9 = .ok (.iload 4, 2) := by decide +kernel
theorem dd_Ways_fillThereAndBack_11 : decode prog_11_method_4_code 11 = .ok (.bipush 64, 2) := by decide +kernel
theorem dd_Ways_fillThereAndBack_13 : decode prog_11_method_4_code 13 = .ok (.if_icmp .ge 32, 3) := by decide +kernel
theorem dd_Ways_fillThereAndBack_16 : decode prog_11_method_4_code 16 = .ok (.aload_n 0, 1) := by decide +kernel
theorem dd_Ways_fillThereAndBack_17 : decode prog_11_method_4_code 17 = .ok (.getfield 18, 3) := by decide +kernel
theorem dd_Ways_fillThereAndBack_20 : decode prog_11_method_4_code 20 = .ok (.iload 4, 2) := by decide +kernel
theorem dd_Ways_fillThereAndBack_22 : decode prog_11_method_4_code 22 = .ok (.aload_n 0, 1) := by decide +kernel
theorem dd_Ways_fillThereAndBack_23 : decode prog_11_method_4_code 23 = .ok (.iload 4, 2) := by decide +kernel
theorem dd_Ways_fillThereAndBack_25 : decode prog_11_method_4_code 25 = .ok (.bipush 8, 2) := by decide +kernel
theorem dd_Ways_fillThereAndBack_27 : decode prog_11_method_4_code 27 = .ok (.idiv, 1) := by decide +kernel
theorem dd_Ways_fillThereAndBack_28 : decode prog_11_method_4_code 28 = .ok (.iload 4, 2) := by decide +kernel
theorem dd_Ways_fillThereAndBack_30 : decode prog_11_method_4_code 30 = .ok (.bipush 8, 2) := by decide +kernel
theorem dd_Ways_fillThereAndBack_32 : decode prog_11_method_4_code 32 = .ok (.irem, 1) := by decide +kernel
theorem dd_Ways_fillThereAndBack_33 : decode prog_11_method_4_code 33 = .ok (.bipush 7, 2) := by decide +kernel
theorem dd_Ways_fillThereAndBack_35 : decode prog_11_method_4_code 35 = .ok (.invokevirtual 54, 3) := by decide +kernel
theorem dd_Ways_fillThereAndBack_38 : decode prog_11_method_4_code 38 = .ok (.iastore, 1) := by decide +kernel
theorem dd_Ways_fillThereAndBack_39 : decode prog_11_method_4_code 39 = .ok (.iinc 4 1, 3) := by decide +kernel
theorem dd_Ways_fillThereAndBack_42 : decode prog_11_method_4_code 42 = .ok (.goto (-33), 3) := by decide +kernel
theorem dd_Ways_fillThereAndBack_45 : decode prog_11_method_4_code 45 = .ok (.aload_n 0, 1) := by decide +kernel
theorem dd_Ways_fillThereAndBack_46 : decode prog_11_method_4_code 46 = .ok (.aload_n 1, 1) := by decide +kernel
theorem dd_Ways_fillThereAndBack_47 : decode prog_11_method_4_code 47 = .ok (.iload_n 3, 1) := by decide +kernel
theorem dd_Ways_fillThereAndBack_48 : decode prog_11_method_4_code 48 = .ok (.invokevirtual 50, 3) := by decide +kernel
theorem dd_Ways_fillThereAndBack_51 : decode prog_11_method_4_code 51 = .ok (.iconst 0, 1) := by decide +kernel
theorem dd_Ways_fillThereAndBack_52 : decode prog_11_method_4_code 52 = .ok (.istore 4, 2) := by decide +kernel
theorem dd_Ways_fillThereAndBack_54 : decode prog_11_method_4_code 54 = .ok (.iload 4, 2) := by decide +kernel
theorem dd_Ways_fillThereAndBack_56 : decode prog_11_method_4_code 56 = .ok (.bipush 64, 2) := by decide +kernel
theorem dd_Ways_fillThereAndBack_58 : decode prog_11_method_4_code 58 = .ok (.if_icmp .ge 63, 3) := by decide +kernel
theorem dd_Ways_fillThereAndBack_61 : decode prog_11_method_4_code 61 = .ok (.aload_n 0, 1) := by decide +kernel
theorem dd_Ways_fillThereAndBack_62 : decode prog_11_method_4_code 62 = .ok (.iload 4, 2) := by decide +kernel
theorem dd_Ways_fillThereAndBack_64 : decode prog_11_method_4_code 64 = .ok (.bipush 8, 2) := by decide +kernel
theorem dd_Ways_fillThereAndBack_66 : decode prog_11_method_4_code 66 = .ok (.irem, 1) := by decide +kernel
theorem dd_Ways_fillThereAndBack_67 : decode prog_11_method_4_code 67 = .ok (.iload 4, 2) := by decide +kernel
theorem dd_Ways_fillThereAndBack_69 : decode prog_11_method_4_code 69 = .ok (.bipush 8, 2) := by decide +kernel
theorem dd_Ways_fillThereAndBack_71 : decode prog_11_method_4_code 71 = .ok (.idiv, 1) := by decide +kernel
theorem dd_Ways_fillThereAndBack_72 : decode prog_11_method_4_code 72 = .ok (.bipush 7, 2) := by decide +kernel
theorem dd_Ways_fillThereAndBack_74 : decode prog_11_method_4_code 74 = .ok (.invokevirtual 54, 3) := by decide +kernel
theorem dd_Ways_fillThereAndBack_77 : decode prog_11_method_4_code 77 = .ok (.istore 5, 2) := by decide +kernel
theorem dd_Ways_fillThereAndBack_79 : decode prog_11_method_4_code 79 = .ok (.aload_n 0, 1) := by decide +kernel
theorem dd_Ways_fillThereAndBack_80 : decode prog_11_method_4_code 80 = .ok (.getfield 18, 3) := by decide +kernel
theorem dd_Ways_fillThereAndBack_83 : decode prog_11_method_4_code 83 = .ok (.iload 4, 2) := by decide +kernel
theorem dd_Ways_fillThereAndBack_85 : decode prog_11_method_4_code 85 = .ok (.aload_n 0, 1) := by decide +kernel
theorem dd_Ways_fillThereAndBack_86 : decode prog_11_method_4_code 86 = .ok (.getfield 18, 3) := by decide +kernel
theorem dd_Ways_fillThereAndBack_89 : decode prog_11_method_4_code 89 = .ok (.iload 4, 2) := by decide +kernel
theorem dd_Ways_fillThereAndBack_91 : decode prog_11_method_4_code 91 = .ok (.iaload, 1) := by decide +kernel
theorem dd_Ways_fillThereAndBack_92 : decode prog_11_method_4_code 92 = .ok (.ifCond .lt 8, 3) := by decide +kernel
theorem dd_Ways_fillThereAndBack_95 : decode prog_11_method_4_code 95 = .ok (.iload 5, 2) := by decide +kernel
theorem dd_Ways_fillThereAndBack_97 : decode prog_11_method_4_code 97 = .ok (.ifCond .ge 7, 3) := by decide +kernel
theorem dd_Ways_fillThereAndBack_104 : decode prog_11_method_4_code 104 = .ok (.aload_n 0, 1) := by decide +kernel
theorem dd_Ways_fillThereAndBack_105 : decode prog_11_method_4_code 105 = .ok (.getfield 18, 3) := by decide +kernel
theorem dd_Ways_fillThereAndBack_108 : decode prog_11_method_4_code 108 = .ok (.iload 4, 2) := by decide +kernel
theorem dd_Ways_fillThereAndBack_110 : decode prog_11_method_4_code 110 = .ok (.iaload, 1) := by decide +kernel
theorem dd_Ways_fillThereAndBack_111 : decode prog_11_method_4_code 111 = .ok (.iload 5, 2) := by decide +kernel
theorem dd_Ways_fillThereAndBack_113 : decode prog_11_method_4_code 113 = .ok (.iadd, 1) := by decide +kernel
theorem dd_Ways_fillThereAndBack_100 : decode prog_11_method_4_code 100 = .ok (.iconst (-1), 1) := by decide +kernel
theorem dd_Ways_fillThereAndBack_101 : decode prog_11_method_4_code 101 = .ok (.goto 13, 3) := by decide +kernel
theorem dd_Ways_fillThereAndBack_114 : decode prog_11_method_4_code 114 = .ok (.iastore, 1) := by decide +kernel
theorem dd_Ways_fillThereAndBack_115 : decode prog_11_method_4_code 115 = .ok (.iinc 4 1, 3) := by decide +kernel
theorem dd_Ways_fillThereAndBack_118 : decode prog_11_method_4_code 118 = .ok (.goto (-64), 3) := by decide +kernel
theorem dd_Ways_fillThereAndBack_121 : decode prog_11_method_4_code 121 = .ok (.iconst 0, 1) := by decide +kernel
theorem dd_Ways_fillThereAndBack_122 : decode prog_11_method_4_code 122 = .ok (.istore 4, 2) := by decide +kernel
theorem dd_Ways_fillThereAndBack_124 : decode prog_11_method_4_code 124 = .ok (.iload 4, 2) := by decide +kernel
theorem dd_Ways_fillThereAndBack_126 : decode prog_11_method_4_code 126 = .ok (.bipush 64, 2) := by decide +kernel
theorem dd_Ways_fillThereAndBack_128 : decode prog_11_method_4_code 128 = .ok (.if_icmp .ge 86, 3) := by decide +kernel
theorem dd_Ways_fillThereAndBack_131 : decode prog_11_method_4_code 131 = .ok (.aload_n 0, 1) := by decide +kernel
theorem dd_Ways_fillThereAndBack_132 : decode prog_11_method_4_code 132 = .ok (.aload_n 1, 1) := by decide +kernel
theorem dd_Ways_fillThereAndBack_133 : decode prog_11_method_4_code 133 = .ok (.iload_n 2, 1) := by decide +kernel
theorem dd_Ways_fillThereAndBack_134 : decode prog_11_method_4_code 134 = .ok (.iload_n 3, 1) := by decide +kernel
theorem dd_Ways_fillThereAndBack_135 : decode prog_11_method_4_code 135 = .ok (.iload 4, 2) := by decide +kernel
theorem dd_Ways_fillThereAndBack_137 : decode prog_11_method_4_code 137 = .ok (.bipush 8, 2) := by decide +kernel
theorem dd_Ways_fillThereAndBack_139 : decode prog_11_method_4_code 139 = .ok (.idiv, 1) := by decide +kernel
theorem dd_Ways_fillThereAndBack_140 : decode prog_11_method_4_code 140 = .ok (.iload 4, 2) := by decide +kernel
theorem dd_Ways_fillThereAndBack_142 : decode prog_11_method_4_code 142 = .ok (.bipush 8, 2) := by decide +kernel
theorem dd_Ways_fillThereAndBack_144 : decode prog_11_method_4_code 144 = .ok (.irem, 1) := by decide +kernel
theorem dd_Ways_fillThereAndBack_145 : decode prog_11_method_4_code 145 = .ok (.invokevirtual 57, 3) := by decide +kernel
theorem dd_Ways_fillThereAndBack_148 : decode prog_11_method_4_code 148 = .ok (.istore 5, 2) := by decide +kernel
theorem dd_Ways_fillThereAndBack_150 : decode prog_11_method_4_code 150 = .ok (.iload 5, 2) := by decide +kernel
theorem dd_Ways_fillThereAndBack_152 : decode prog_11_method_4_code 152 = .ok (.ifCond .lt 29, 3) := by decide +kernel
theorem dd_Ways_fillThereAndBack_155 : decode prog_11_method_4_code 155 = .ok (.aload_n 0, 1) := by decide +kernel
theorem dd_Ways_fillThereAndBack_156 : decode prog_11_method_4_code 156 = .ok (.getfield 18, 3) := by decide +kernel
theorem dd_Ways_fillThereAndBack_159 : decode prog_11_method_4_code 159 = .ok (.iload 4, 2) := by decide +kernel
theorem dd_Ways_fillThereAndBack_161 : decode prog_11_method_4_code 161 = .ok (.iaload, 1) := by decide +kernel
theorem dd_Ways_fillThereAndBack_162 : decode prog_11_method_4_code 162 = .ok (.ifCond .lt 15, 3) := by decide +kernel
theorem dd_Ways_fillThereAndBack_165 : decode prog_11_method_4_code 165 = .ok (.iload 5, 2) := by decide +kernel
theorem dd_Ways_fillThereAndBack_167 : decode prog_11_method_4_code 167 = .ok (.aload_n 0, 1) := by decide +kernel
theorem dd_Ways_fillThereAndBack_168 : decode prog_11_method_4_code 168 = .ok (.getfield 18, 3) := by decide +kernel
theorem dd_Ways_fillThereAndBack_171 : decode prog_11_method_4_code 171 = .ok (.iload 4, 2) := by decide +kernel
theorem dd_Ways_fillThereAndBack_173 : decode prog_11_method_4_code 173 = .ok (.iaload, 1) := by decide +kernel
theorem dd_Ways_fillThereAndBack_174 : decode prog_11_method_4_code 174 = .ok (.if_icmp .ge 7, 3) := by decide +kernel
theorem dd_Ways_fillThereAndBack_177 : decode prog_11_method_4_code 177 = .ok (.iconst 1, 1) := by decide +kernel
theorem dd_Ways_fillThereAndBack_178 : decode prog_11_method_4_code 178 = .ok (.goto 4, 3) := by decide +kernel
theorem dd_Ways_fillThereAndBack_181 : decode prog_11_method_4_code 181 = .ok (.iconst 0, 1) := by decide +kernel
theorem dd_Ways_fillThereAndBack_182 : decode prog_11_method_4_code 182 = .ok (.istore 6, 2) := by decide +kernel
theorem dd_Ways_fillThereAndBack_184 : decode prog_11_method_4_code 184 = .ok (.aload_n 0, 1) := by decide +kernel
theorem dd_Ways_fillThereAndBack_185 : decode prog_11_method_4_code 185 = .ok (.getfield 9, 3) := by decide +kernel
theorem dd_Ways_fillThereAndBack_188 : decode prog_11_method_4_code 188 = .ok (.iload 4, 2) := by decide +kernel
theorem dd_Ways_fillThereAndBack_190 : decode prog_11_method_4_code 190 = .ok (.iload 6, 2) := by decide +kernel
theorem dd_Ways_fillThereAndBack_192 : decode prog_11_method_4_code 192 = .ok (.ifCond .eq 8, 3) := by decide +kernel
theorem dd_Ways_fillThereAndBack_195 : decode prog_11_method_4_code 195 = .ok (.iload 5, 2) := by decide +kernel
theorem dd_Ways_fillThereAndBack_197 : decode prog_11_method_4_code 197 = .ok (.goto 10, 3) := by decide +kernel
theorem dd_Ways_fillThereAndBack_200 : decode prog_11_method_4_code 200 = .ok (.aload_n 0, 1) := by decide +kernel
theorem dd_Ways_fillThereAndBack_201 : decode prog_11_method_4_code 201 = .ok (.getfield 18, 3) := by decide +kernel
theorem dd_Ways_fillThereAndBack_204 : decode prog_11_method_4_code 204 = .ok (.iload 4, 2) := by decide +kernel
theorem dd_Ways_fillThereAndBack_206 : decode prog_11_method_4_code 206 = .ok (.iaload, 1) := by decide +kernel
theorem dd_Ways_fillThereAndBack_207 : decode prog_11_method_4_code 207 = .ok (.iastore, 1) := by decide +kernel
theorem dd_Ways_fillThereAndBack_208 : decode prog_11_method_4_code 208 = .ok (.iinc 4 1, 3) := by decide +kernel
theorem dd_Ways_fillThereAndBack_211 : decode prog_11_method_4_code 211 = .ok (.goto (-87), 3) := by decide +kernel
theorem dd_Ways_fillThereAndBack_214 : decode prog_11_method_4_code 214 = .ok (.return_, 1) := by decide +kernel
def jx_Ways_fillThereAndBack (p0 : Option Nat) (p1 : Option Nat) (p2 : Int32) (p3 : Int32) : sf_M (Unit) :=
  sf_bnd (sf_rc 10 p0 (jx_Ways_fillWithSingles p0 p1 p2)) fun _ =>
  sf_bnd (sf_loop (β := (Int32)) (γ := (Unit)) (fun b2 =>
  if (64 : Int32) ≤ b2 then (
  sf_ret (.inr ())
  ) else (
  sf_bnd (sf_gR 10 2 p0) fun x4 =>
  sf_bnd (sf_rc 10 p0 (jx_Ways_least p0 (b2 / (8 : Int32)) (b2 - b2 / (8 : Int32) * (8 : Int32)) (7 : Int32))) fun x5 =>
  sf_bnd (sf_sI 0 x4 b2 x5) fun _ =>
  sf_bnd (sf_ret (b2 + (1 : Int32))) fun y6 =>
  sf_ret (.inl y6)
  )
  ) sf_fuel (0 : Int32)) (fun e7 =>
  sf_bnd (sf_rc 10 p0 (jx_Ways_fillWithSingles p0 p1 p3)) fun _ =>
  sf_bnd (sf_loop (β := (Int32)) (γ := (Unit)) (fun b9 =>
  if (64 : Int32) ≤ b9 then (
  sf_ret (.inr ())
  ) else (
  sf_bnd (sf_rc 10 p0 (jx_Ways_least p0 (b9 - b9 / (8 : Int32) * (8 : Int32)) (b9 / (8 : Int32)) (7 : Int32))) fun x11 =>
  sf_bnd (sf_gR 10 2 p0) fun x12 =>
  sf_bnd (sf_gR 10 2 p0) fun x13 =>
  sf_bnd (sf_aI 0 x13 b9) fun x14 =>
  sf_bnd (α := (Int32)) (
  sf_or (α := (Int32)) (β := (Unit)) (
  if x14 < 0 then (
  sf_ret (.inr ())
  ) else (
  if 0 ≤ x11 then (
  sf_bnd (sf_gR 10 2 p0) fun x17 =>
  sf_bnd (sf_aI 0 x17 b9) fun x18 =>
  sf_ret (.inl (x18 + x11))
  ) else (
  sf_ret (.inr ())
  )
  )
  ) (fun v19 =>
  sf_ret (-1 : Int32)
  )
  ) (fun v20 =>
  sf_bnd (sf_sI 0 x12 b9 v20) fun _ =>
  sf_bnd (sf_ret (b9 + (1 : Int32))) fun y21 =>
  sf_ret (.inl y21)
  )
  )
  ) sf_fuel (0 : Int32)) (fun e22 =>
  sf_bnd (sf_loop (β := (Int32)) (γ := (Unit)) (fun b23 =>
  if (64 : Int32) ≤ b23 then (
  sf_ret (.inr ())
  ) else (
  sf_bnd (sf_rc 10 p0 (jx_Ways_returnOn p0 p1 p2 p3 (b23 / (8 : Int32)) (b23 - b23 / (8 : Int32) * (8 : Int32)))) fun x25 =>
  sf_bnd (α := (Int32)) (
  sf_or (α := (Int32)) (β := (Unit)) (
  if x25 < 0 then (
  sf_ret (.inr ())
  ) else (
  sf_bnd (sf_gR 10 2 p0) fun x27 =>
  sf_bnd (sf_aI 0 x27 b23) fun x28 =>
  if x28 < 0 then (
  sf_ret (.inl (1 : Int32))
  ) else (
  sf_bnd (sf_gR 10 2 p0) fun x30 =>
  sf_bnd (sf_aI 0 x30 b23) fun x31 =>
  if x31 ≤ x25 then (
  sf_ret (.inr ())
  ) else (
  sf_ret (.inl (1 : Int32))
  )
  )
  )
  ) (fun v33 =>
  sf_ret (0 : Int32)
  )
  ) (fun v34 =>
  sf_bnd (sf_gR 10 0 p0) fun x35 =>
  sf_bnd (α := (Int32)) (
  if v34 = 0 then (
  sf_bnd (sf_gR 10 2 p0) fun x37 =>
  sf_bnd (sf_aI 0 x37 b23) fun x38 =>
  sf_ret x38
  ) else (
  sf_ret x25
  )
  ) (fun v39 =>
  sf_bnd (sf_sI 0 x35 b23 v39) fun _ =>
  sf_bnd (sf_ret (b23 + (1 : Int32))) fun y40 =>
  sf_ret (.inl y40)
  )
  )
  )
  ) sf_fuel (0 : Int32)) (fun e41 =>
  sf_ret ()
  )
  )
  )
set_option maxRecDepth 20000 in
set_option maxHeartbeats 4000000 in
theorem ok_Ways_fillThereAndBack (p0 : Option Nat) (p1 : Option Nat) (p2 : Int32) (p3 : Int32) : sf_Ok ({ cls := "SplitFares$Ways", name := "fillThereAndBack", desc := "(LSplitFares$Office;II)V" } : Jvm.MethodName) prog_11_method_4_code 7 none 5 [sf_rv p0, sf_rv p1, .int p2, .int p3] (jx_Ways_fillThereAndBack p0 p1 p2 p3) (fun _ => none) := by
  refine sf_Ok.of (env := [some (sf_rv p0), some (sf_rv p1), some (.int p2), some (.int p3), none, none, none]) (plainFor_of_name (by decide)) [false, false, false, false] (fun G => ⟨pk_r, pk_r, pk_i, pk_i, trivial⟩) (Nat.le_of_ble_eq_true rfl) rfl (fun X => ?_)
  unfold jx_Ways_fillThereAndBack
  refine fp_aload_n (i := 0) (r := p0) dd_Ways_fillThereAndBack_0 rfl rfl (fr_pc (pc' := 1) rfl ?_)
  refine fp_aload_n (i := 1) (r := p1) dd_Ways_fillThereAndBack_1 rfl rfl (fr_pc (pc' := 2) rfl ?_)
  refine fp_iload_n (i := 2) (x := p2) dd_Ways_fillThereAndBack_2 rfl rfl (fr_pc (pc' := 3) rfl ?_)
  refine fr_callV (stk := []) (As := [sf_rv p1, .int p2]) cl_10 (ok_Ways_fillWithSingles p0 p1 p2) mt_Ways_fillWithSingles rfl rfl sw_937 sw_903 sw_904 (by decide) (Nat.le_of_ble_eq_true rfl) dd_Ways_fillThereAndBack_3 (fun u1 => fr_to (pc' := 6) (env' := [some (sf_rv p0), some (sf_rv p1), some (.int p2), some (.int p3), none, none, none]) (stk' := []) rfl rfl rfl ?_)
  refine fp_iconst (v := (0 : Int32)) dd_Ways_fillThereAndBack_6 (by decide) (fr_pc (pc' := 7) rfl ?_)
  refine fp_istore (i := 4) dd_Ways_fillThereAndBack_7 (Nat.le_of_ble_eq_true rfl) (fun _ => c1_i rfl) (fr_to (pc' := 9) (env' := [some (sf_rv p0), some (sf_rv p1), some (.int p2), some (.int p3), some (.int (0 : Int32)), none, none]) (stk' := []) rfl rfl rfl ?_)
  refine fr_to (pc' := 9) (env' := [some (sf_rv p0), some (sf_rv p1), some (.int p2), some (.int p3), some (.int (0 : Int32)), none, none]) (stk' := []) rfl rfl rfl ?_
  refine fr_bnd (l1 := (fun (e7 : (Unit)) => sf_p 45 [some (sf_rv p0), some (sf_rv p1), some (.int p2), some (.int p3), none, none, none] [])) (fr_loop (Lb := (fun (b2 : (Int32)) => sf_p 9 [some (sf_rv p0), some (sf_rv p1), some (.int p2), some (.int p3), some (.int b2), none, none] [])) (fun b2 => ?_) _ _) (fun e7 => ?_)
  · refine fp_iload (i := 4) (x := b2) dd_Ways_fillThereAndBack_9 rfl (fr_pc (pc' := 11) rfl ?_)
    refine fp_bipush (v := (64 : Int32)) dd_Ways_fillThereAndBack_11 (by decide) (fr_pc (pc' := 13) rfl ?_)
    refine fr_icmp_ge (tgt := 45) dd_Ways_fillThereAndBack_13 rfl (fun _ => ?_) (fun _ => ?_)
    · refine fr_wk [true, true, true, true, false, false, false] ?_
      exact fr_ret rfl
    · refine fr_pc (pc' := 16) rfl ?_
      refine fp_aload_n (i := 0) (r := p0) dd_Ways_fillThereAndBack_16 rfl rfl (fr_pc (pc' := 17) rfl ?_)
      refine fr_gR cl_10 2 (by decide) rfl sw_150 dd_Ways_fillThereAndBack_17 (fun x4 => fr_pc (pc' := 20) rfl ?_)
      refine fp_iload (i := 4) (x := b2) dd_Ways_fillThereAndBack_20 rfl (fr_pc (pc' := 22) rfl ?_)
      refine fp_aload_n (i := 0) (r := p0) dd_Ways_fillThereAndBack_22 rfl rfl (fr_pc (pc' := 23) rfl ?_)
      refine fp_iload (i := 4) (x := b2) dd_Ways_fillThereAndBack_23 rfl (fr_pc (pc' := 25) rfl ?_)
      refine fp_bipush (v := (8 : Int32)) dd_Ways_fillThereAndBack_25 (by decide) (fr_pc (pc' := 27) rfl ?_)
      refine fp_idiv0 dd_Ways_fillThereAndBack_27 (by decide) (fr_pc (pc' := 28) rfl ?_)
      refine fp_iload (i := 4) (x := b2) dd_Ways_fillThereAndBack_28 rfl (fr_pc (pc' := 30) rfl ?_)
      refine fp_bipush (v := (8 : Int32)) dd_Ways_fillThereAndBack_30 (by decide) (fr_pc (pc' := 32) rfl ?_)
      refine fp_irem0 dd_Ways_fillThereAndBack_32 (by decide) (fr_pc (pc' := 33) rfl ?_)
      refine fp_bipush (v := (7 : Int32)) dd_Ways_fillThereAndBack_33 (by decide) (fr_pc (pc' := 35) rfl ?_)
      refine fr_callV (stk := [.int b2, sf_rv x4]) (As := [.int (b2 / (8 : Int32)), .int (b2 - b2 / (8 : Int32) * (8 : Int32)), .int (7 : Int32)]) cl_10 (ok_Ways_least p0 (b2 / (8 : Int32)) (b2 - b2 / (8 : Int32) * (8 : Int32)) (7 : Int32)) mt_Ways_least rfl rfl sw_938 sw_810 sw_811 (by decide) (Nat.le_of_ble_eq_true rfl) dd_Ways_fillThereAndBack_35 (fun x5 => fr_to (pc' := 38) (env' := [some (sf_rv p0), some (sf_rv p1), some (.int p2), some (.int p3), some (.int b2), none, none]) (stk' := [.int x5, .int b2, sf_rv x4]) rfl rfl rfl ?_)
      refine fr_sI0 dd_Ways_fillThereAndBack_38 (fr_pc (pc' := 39) rfl ?_)
      refine fr_niinc (i := 4) (x := b2) (w := (1 : Int32)) dd_Ways_fillThereAndBack_39 rfl (by decide) (Nat.le_of_ble_eq_true rfl) (fun _ => c1_i rfl) (fun y6 => fr_to (pc' := 42) (env' := [some (sf_rv p0), some (sf_rv p1), some (.int p2), some (.int p3), some (.int y6), none, none]) (stk' := []) rfl rfl rfl ?_)
      refine fp_goto (tgt := 9) dd_Ways_fillThereAndBack_42 rfl ?_
      exact fr_ret rfl
  · refine fp_aload_n (i := 0) (r := p0) dd_Ways_fillThereAndBack_45 rfl rfl (fr_pc (pc' := 46) rfl ?_)
    refine fp_aload_n (i := 1) (r := p1) dd_Ways_fillThereAndBack_46 rfl rfl (fr_pc (pc' := 47) rfl ?_)
    refine fp_iload_n (i := 3) (x := p3) dd_Ways_fillThereAndBack_47 rfl rfl (fr_pc (pc' := 48) rfl ?_)
    refine fr_callV (stk := []) (As := [sf_rv p1, .int p3]) cl_10 (ok_Ways_fillWithSingles p0 p1 p3) mt_Ways_fillWithSingles rfl rfl sw_937 sw_903 sw_904 (by decide) (Nat.le_of_ble_eq_true rfl) dd_Ways_fillThereAndBack_48 (fun u8 => fr_to (pc' := 51) (env' := [some (sf_rv p0), some (sf_rv p1), some (.int p2), some (.int p3), none, none, none]) (stk' := []) rfl rfl rfl ?_)
    refine fp_iconst (v := (0 : Int32)) dd_Ways_fillThereAndBack_51 (by decide) (fr_pc (pc' := 52) rfl ?_)
    refine fp_istore (i := 4) dd_Ways_fillThereAndBack_52 (Nat.le_of_ble_eq_true rfl) (fun _ => c1_i rfl) (fr_to (pc' := 54) (env' := [some (sf_rv p0), some (sf_rv p1), some (.int p2), some (.int p3), some (.int (0 : Int32)), none, none]) (stk' := []) rfl rfl rfl ?_)
    refine fr_to (pc' := 54) (env' := [some (sf_rv p0), some (sf_rv p1), some (.int p2), some (.int p3), some (.int (0 : Int32)), none, none]) (stk' := []) rfl rfl rfl ?_
    refine fr_bnd (l1 := (fun (e22 : (Unit)) => sf_p 121 [some (sf_rv p0), some (sf_rv p1), some (.int p2), some (.int p3), none, none, none] [])) (fr_loop (Lb := (fun (b9 : (Int32)) => sf_p 54 [some (sf_rv p0), some (sf_rv p1), some (.int p2), some (.int p3), some (.int b9), none, none] [])) (fun b9 => ?_) _ _) (fun e22 => ?_)
    · refine fp_iload (i := 4) (x := b9) dd_Ways_fillThereAndBack_54 rfl (fr_pc (pc' := 56) rfl ?_)
      refine fp_bipush (v := (64 : Int32)) dd_Ways_fillThereAndBack_56 (by decide) (fr_pc (pc' := 58) rfl ?_)
      refine fr_icmp_ge (tgt := 121) dd_Ways_fillThereAndBack_58 rfl (fun _ => ?_) (fun _ => ?_)
      · refine fr_wk [true, true, true, true, false, false, false] ?_
        exact fr_ret rfl
      · refine fr_pc (pc' := 61) rfl ?_
        refine fp_aload_n (i := 0) (r := p0) dd_Ways_fillThereAndBack_61 rfl rfl (fr_pc (pc' := 62) rfl ?_)
        refine fp_iload (i := 4) (x := b9) dd_Ways_fillThereAndBack_62 rfl (fr_pc (pc' := 64) rfl ?_)
        refine fp_bipush (v := (8 : Int32)) dd_Ways_fillThereAndBack_64 (by decide) (fr_pc (pc' := 66) rfl ?_)
        refine fp_irem0 dd_Ways_fillThereAndBack_66 (by decide) (fr_pc (pc' := 67) rfl ?_)
        refine fp_iload (i := 4) (x := b9) dd_Ways_fillThereAndBack_67 rfl (fr_pc (pc' := 69) rfl ?_)
        refine fp_bipush (v := (8 : Int32)) dd_Ways_fillThereAndBack_69 (by decide) (fr_pc (pc' := 71) rfl ?_)
        refine fp_idiv0 dd_Ways_fillThereAndBack_71 (by decide) (fr_pc (pc' := 72) rfl ?_)
        refine fp_bipush (v := (7 : Int32)) dd_Ways_fillThereAndBack_72 (by decide) (fr_pc (pc' := 74) rfl ?_)
        refine fr_callV (stk := []) (As := [.int (b9 - b9 / (8 : Int32) * (8 : Int32)), .int (b9 / (8 : Int32)), .int (7 : Int32)]) cl_10 (ok_Ways_least p0 (b9 - b9 / (8 : Int32) * (8 : Int32)) (b9 / (8 : Int32)) (7 : Int32)) mt_Ways_least rfl rfl sw_938 sw_810 sw_811 (by decide) (Nat.le_of_ble_eq_true rfl) dd_Ways_fillThereAndBack_74 (fun x11 => fr_to (pc' := 77) (env' := [some (sf_rv p0), some (sf_rv p1), some (.int p2), some (.int p3), some (.int b9), none, none]) (stk' := [.int x11]) rfl rfl rfl ?_)
        refine fp_istore (i := 5) dd_Ways_fillThereAndBack_77 (Nat.le_of_ble_eq_true rfl) (fun _ => c1_i rfl) (fr_to (pc' := 79) (env' := [some (sf_rv p0), some (sf_rv p1), some (.int p2), some (.int p3), some (.int b9), some (.int x11), none]) (stk' := []) rfl rfl rfl ?_)
        refine fp_aload_n (i := 0) (r := p0) dd_Ways_fillThereAndBack_79 rfl rfl (fr_pc (pc' := 80) rfl ?_)
        refine fr_gR cl_10 2 (by decide) rfl sw_150 dd_Ways_fillThereAndBack_80 (fun x12 => fr_pc (pc' := 83) rfl ?_)
        refine fp_iload (i := 4) (x := b9) dd_Ways_fillThereAndBack_83 rfl (fr_pc (pc' := 85) rfl ?_)
        refine fp_aload_n (i := 0) (r := p0) dd_Ways_fillThereAndBack_85 rfl rfl (fr_pc (pc' := 86) rfl ?_)
        refine fr_gR cl_10 2 (by decide) rfl sw_150 dd_Ways_fillThereAndBack_86 (fun x13 => fr_pc (pc' := 89) rfl ?_)
        refine fp_iload (i := 4) (x := b9) dd_Ways_fillThereAndBack_89 rfl (fr_pc (pc' := 91) rfl ?_)
        refine fr_aI0 dd_Ways_fillThereAndBack_91 (fun x14 => fr_pc (pc' := 92) rfl ?_)
        refine fr_bnd (l1 := (fun (v20 : (Int32)) => sf_p 114 [some (sf_rv p0), some (sf_rv p1), some (.int p2), some (.int p3), some (.int b9), some (.int x11), none] [.int v20, .int b9, sf_rv x12])) ?_ (fun v20 => ?_)
        · refine fr_or (l1 := (fun (v19 : (Unit)) => sf_p 100 [some (sf_rv p0), some (sf_rv p1), some (.int p2), some (.int p3), some (.int b9), some (.int x11), none] [.int b9, sf_rv x12])) ?_ (fun v19 => ?_)
          · refine fr_if_lt (tgt := 100) dd_Ways_fillThereAndBack_92 rfl (fun _ => ?_) (fun _ => ?_)
            · exact fr_ret rfl
            · refine fr_pc (pc' := 95) rfl ?_
              refine fp_iload (i := 5) (x := x11) dd_Ways_fillThereAndBack_95 rfl (fr_pc (pc' := 97) rfl ?_)
              refine fr_if_ge (tgt := 104) dd_Ways_fillThereAndBack_97 rfl (fun _ => ?_) (fun _ => ?_)
              · refine fp_aload_n (i := 0) (r := p0) dd_Ways_fillThereAndBack_104 rfl rfl (fr_pc (pc' := 105) rfl ?_)
                refine fr_gR cl_10 2 (by decide) rfl sw_150 dd_Ways_fillThereAndBack_105 (fun x17 => fr_pc (pc' := 108) rfl ?_)
                refine fp_iload (i := 4) (x := b9) dd_Ways_fillThereAndBack_108 rfl (fr_pc (pc' := 110) rfl ?_)
                refine fr_aI0 dd_Ways_fillThereAndBack_110 (fun x18 => fr_pc (pc' := 111) rfl ?_)
                refine fp_iload (i := 5) (x := x11) dd_Ways_fillThereAndBack_111 rfl (fr_pc (pc' := 113) rfl ?_)
                refine fp_iadd dd_Ways_fillThereAndBack_113 (fr_pc (pc' := 114) rfl ?_)
                exact fr_ret rfl
              · refine fr_pc (pc' := 100) rfl ?_
                exact fr_ret rfl
          · refine fp_iconst (v := (-1 : Int32)) dd_Ways_fillThereAndBack_100 (by decide) (fr_pc (pc' := 101) rfl ?_)
            refine fp_goto (tgt := 114) dd_Ways_fillThereAndBack_101 rfl ?_
            exact fr_ret rfl
        · refine fr_sI0 dd_Ways_fillThereAndBack_114 (fr_pc (pc' := 115) rfl ?_)
          refine fr_niinc (i := 4) (x := b9) (w := (1 : Int32)) dd_Ways_fillThereAndBack_115 rfl (by decide) (Nat.le_of_ble_eq_true rfl) (fun _ => c1_i rfl) (fun y21 => fr_to (pc' := 118) (env' := [some (sf_rv p0), some (sf_rv p1), some (.int p2), some (.int p3), some (.int y21), some (.int x11), none]) (stk' := []) rfl rfl rfl ?_)
          refine fp_goto (tgt := 54) dd_Ways_fillThereAndBack_118 rfl ?_
          refine fr_wk [true, true, true, true, true, false, false] ?_
          exact fr_ret rfl
    · refine fp_iconst (v := (0 : Int32)) dd_Ways_fillThereAndBack_121 (by decide) (fr_pc (pc' := 122) rfl ?_)
      refine fp_istore (i := 4) dd_Ways_fillThereAndBack_122 (Nat.le_of_ble_eq_true rfl) (fun _ => c1_i rfl) (fr_to (pc' := 124) (env' := [some (sf_rv p0), some (sf_rv p1), some (.int p2), some (.int p3), some (.int (0 : Int32)), none, none]) (stk' := []) rfl rfl rfl ?_)
      refine fr_to (pc' := 124) (env' := [some (sf_rv p0), some (sf_rv p1), some (.int p2), some (.int p3), some (.int (0 : Int32)), none, none]) (stk' := []) rfl rfl rfl ?_
      refine fr_bnd (l1 := (fun (e41 : (Unit)) => sf_p 214 [some (sf_rv p0), some (sf_rv p1), some (.int p2), some (.int p3), none, none, none] [])) (fr_loop (Lb := (fun (b23 : (Int32)) => sf_p 124 [some (sf_rv p0), some (sf_rv p1), some (.int p2), some (.int p3), some (.int b23), none, none] [])) (fun b23 => ?_) _ _) (fun e41 => ?_)
      · refine fp_iload (i := 4) (x := b23) dd_Ways_fillThereAndBack_124 rfl (fr_pc (pc' := 126) rfl ?_)
        refine fp_bipush (v := (64 : Int32)) dd_Ways_fillThereAndBack_126 (by decide) (fr_pc (pc' := 128) rfl ?_)
        refine fr_icmp_ge (tgt := 214) dd_Ways_fillThereAndBack_128 rfl (fun _ => ?_) (fun _ => ?_)
        · refine fr_wk [true, true, true, true, false, false, false] ?_
          exact fr_ret rfl
        · refine fr_pc (pc' := 131) rfl ?_
          refine fp_aload_n (i := 0) (r := p0) dd_Ways_fillThereAndBack_131 rfl rfl (fr_pc (pc' := 132) rfl ?_)
          refine fp_aload_n (i := 1) (r := p1) dd_Ways_fillThereAndBack_132 rfl rfl (fr_pc (pc' := 133) rfl ?_)
          refine fp_iload_n (i := 2) (x := p2) dd_Ways_fillThereAndBack_133 rfl rfl (fr_pc (pc' := 134) rfl ?_)
          refine fp_iload_n (i := 3) (x := p3) dd_Ways_fillThereAndBack_134 rfl rfl (fr_pc (pc' := 135) rfl ?_)
          refine fp_iload (i := 4) (x := b23) dd_Ways_fillThereAndBack_135 rfl (fr_pc (pc' := 137) rfl ?_)
          refine fp_bipush (v := (8 : Int32)) dd_Ways_fillThereAndBack_137 (by decide) (fr_pc (pc' := 139) rfl ?_)
          refine fp_idiv0 dd_Ways_fillThereAndBack_139 (by decide) (fr_pc (pc' := 140) rfl ?_)
          refine fp_iload (i := 4) (x := b23) dd_Ways_fillThereAndBack_140 rfl (fr_pc (pc' := 142) rfl ?_)
          refine fp_bipush (v := (8 : Int32)) dd_Ways_fillThereAndBack_142 (by decide) (fr_pc (pc' := 144) rfl ?_)
          refine fp_irem0 dd_Ways_fillThereAndBack_144 (by decide) (fr_pc (pc' := 145) rfl ?_)
          refine fr_callV (stk := []) (As := [sf_rv p1, .int p2, .int p3, .int (b23 / (8 : Int32)), .int (b23 - b23 / (8 : Int32) * (8 : Int32))]) cl_10 (ok_Ways_returnOn p0 p1 p2 p3 (b23 / (8 : Int32)) (b23 - b23 / (8 : Int32) * (8 : Int32))) mt_Ways_returnOn rfl rfl sw_939 sw_941 sp_22 (by decide) (Nat.le_of_ble_eq_true rfl) dd_Ways_fillThereAndBack_145 (fun x25 => fr_to (pc' := 148) (env' := [some (sf_rv p0), some (sf_rv p1), some (.int p2), some (.int p3), some (.int b23), none, none]) (stk' := [.int x25]) rfl rfl rfl ?_)
          refine fp_istore (i := 5) dd_Ways_fillThereAndBack_148 (Nat.le_of_ble_eq_true rfl) (fun _ => c1_i rfl) (fr_to (pc' := 150) (env' := [some (sf_rv p0), some (sf_rv p1), some (.int p2), some (.int p3), some (.int b23), some (.int x25), none]) (stk' := []) rfl rfl rfl ?_)
          refine fp_iload (i := 5) (x := x25) dd_Ways_fillThereAndBack_150 rfl (fr_pc (pc' := 152) rfl ?_)
          refine fr_bnd (l1 := (fun (v34 : (Int32)) => sf_p 182 [some (sf_rv p0), some (sf_rv p1), some (.int p2), some (.int p3), some (.int b23), some (.int x25), none] [.int v34])) ?_ (fun v34 => ?_)
          · refine fr_or (l1 := (fun (v33 : (Unit)) => sf_p 181 [some (sf_rv p0), some (sf_rv p1), some (.int p2), some (.int p3), some (.int b23), some (.int x25), none] [])) ?_ (fun v33 => ?_)
            · refine fr_if_lt (tgt := 181) dd_Ways_fillThereAndBack_152 rfl (fun _ => ?_) (fun _ => ?_)
              · exact fr_ret rfl
              · refine fr_pc (pc' := 155) rfl ?_
                refine fp_aload_n (i := 0) (r := p0) dd_Ways_fillThereAndBack_155 rfl rfl (fr_pc (pc' := 156) rfl ?_)
                refine fr_gR cl_10 2 (by decide) rfl sw_150 dd_Ways_fillThereAndBack_156 (fun x27 => fr_pc (pc' := 159) rfl ?_)
                refine fp_iload (i := 4) (x := b23) dd_Ways_fillThereAndBack_159 rfl (fr_pc (pc' := 161) rfl ?_)
                refine fr_aI0 dd_Ways_fillThereAndBack_161 (fun x28 => fr_pc (pc' := 162) rfl ?_)
                refine fr_if_lt (tgt := 177) dd_Ways_fillThereAndBack_162 rfl (fun _ => ?_) (fun _ => ?_)
                · refine fp_iconst (v := (1 : Int32)) dd_Ways_fillThereAndBack_177 (by decide) (fr_pc (pc' := 178) rfl ?_)
                  refine fp_goto (tgt := 182) dd_Ways_fillThereAndBack_178 rfl ?_
                  exact fr_ret rfl
                · refine fr_pc (pc' := 165) rfl ?_
                  refine fp_iload (i := 5) (x := x25) dd_Ways_fillThereAndBack_165 rfl (fr_pc (pc' := 167) rfl ?_)
                  refine fp_aload_n (i := 0) (r := p0) dd_Ways_fillThereAndBack_167 rfl rfl (fr_pc (pc' := 168) rfl ?_)
                  refine fr_gR cl_10 2 (by decide) rfl sw_150 dd_Ways_fillThereAndBack_168 (fun x30 => fr_pc (pc' := 171) rfl ?_)
                  refine fp_iload (i := 4) (x := b23) dd_Ways_fillThereAndBack_171 rfl (fr_pc (pc' := 173) rfl ?_)
                  refine fr_aI0 dd_Ways_fillThereAndBack_173 (fun x31 => fr_pc (pc' := 174) rfl ?_)
                  refine fr_icmp_ge (tgt := 181) dd_Ways_fillThereAndBack_174 rfl (fun _ => ?_) (fun _ => ?_)
                  · exact fr_ret rfl
                  · refine fr_pc (pc' := 177) rfl ?_
                    refine fp_iconst (v := (1 : Int32)) dd_Ways_fillThereAndBack_177 (by decide) (fr_pc (pc' := 178) rfl ?_)
                    refine fp_goto (tgt := 182) dd_Ways_fillThereAndBack_178 rfl ?_
                    exact fr_ret rfl
            · refine fp_iconst (v := (0 : Int32)) dd_Ways_fillThereAndBack_181 (by decide) (fr_pc (pc' := 182) rfl ?_)
              exact fr_ret rfl
          · refine fp_istore (i := 6) dd_Ways_fillThereAndBack_182 (Nat.le_of_ble_eq_true rfl) (fun _ => c1_i rfl) (fr_to (pc' := 184) (env' := [some (sf_rv p0), some (sf_rv p1), some (.int p2), some (.int p3), some (.int b23), some (.int x25), some (.int v34)]) (stk' := []) rfl rfl rfl ?_)
            refine fp_aload_n (i := 0) (r := p0) dd_Ways_fillThereAndBack_184 rfl rfl (fr_pc (pc' := 185) rfl ?_)
            refine fr_gR cl_10 0 (by decide) rfl sw_148 dd_Ways_fillThereAndBack_185 (fun x35 => fr_pc (pc' := 188) rfl ?_)
            refine fp_iload (i := 4) (x := b23) dd_Ways_fillThereAndBack_188 rfl (fr_pc (pc' := 190) rfl ?_)
            refine fp_iload (i := 6) (x := v34) dd_Ways_fillThereAndBack_190 rfl (fr_pc (pc' := 192) rfl ?_)
            refine fr_bnd (l1 := (fun (v39 : (Int32)) => sf_p 207 [some (sf_rv p0), some (sf_rv p1), some (.int p2), some (.int p3), some (.int b23), some (.int x25), some (.int v34)] [.int v39, .int b23, sf_rv x35])) ?_ (fun v39 => ?_)
            · refine fr_if_eq (tgt := 200) dd_Ways_fillThereAndBack_192 rfl (fun _ => ?_) (fun _ => ?_)
              · refine fp_aload_n (i := 0) (r := p0) dd_Ways_fillThereAndBack_200 rfl rfl (fr_pc (pc' := 201) rfl ?_)
                refine fr_gR cl_10 2 (by decide) rfl sw_150 dd_Ways_fillThereAndBack_201 (fun x37 => fr_pc (pc' := 204) rfl ?_)
                refine fp_iload (i := 4) (x := b23) dd_Ways_fillThereAndBack_204 rfl (fr_pc (pc' := 206) rfl ?_)
                refine fr_aI0 dd_Ways_fillThereAndBack_206 (fun x38 => fr_pc (pc' := 207) rfl ?_)
                exact fr_ret rfl
              · refine fr_pc (pc' := 195) rfl ?_
                refine fp_iload (i := 5) (x := x25) dd_Ways_fillThereAndBack_195 rfl (fr_pc (pc' := 197) rfl ?_)
                refine fp_goto (tgt := 207) dd_Ways_fillThereAndBack_197 rfl ?_
                exact fr_ret rfl
            · refine fr_sI0 dd_Ways_fillThereAndBack_207 (fr_pc (pc' := 208) rfl ?_)
              refine fr_niinc (i := 4) (x := b23) (w := (1 : Int32)) dd_Ways_fillThereAndBack_208 rfl (by decide) (Nat.le_of_ble_eq_true rfl) (fun _ => c1_i rfl) (fun y40 => fr_to (pc' := 211) (env' := [some (sf_rv p0), some (sf_rv p1), some (.int p2), some (.int p3), some (.int y40), some (.int x25), some (.int v34)]) (stk' := []) rfl rfl rfl ?_)
              refine fp_goto (tgt := 124) dd_Ways_fillThereAndBack_211 rfl ?_
              refine fr_wk [true, true, true, true, true, false, false] ?_
              exact fr_ret rfl
      · exact fr_vret rfl rfl dd_Ways_fillThereAndBack_214
theorem mt_Ways_savedBetween : sf_Mt ({ cls := "SplitFares$Ways", name := "savedBetween", desc := "(II)I" } : Jvm.MethodName) prog_11_method_13_code 5 (some .int) 2 := ⟨sw_950, sw_6, ⟨by decide, by decide, by decide +kernel⟩, by decide⟩
theorem dd_Ways_savedBetween_0 : decode prog_11_method_13_code 0 = .ok (.aload_n 0, 1) := by decide +kernel
theorem dd_Ways_savedBetween_1 : decode prog_11_method_13_code 1 = .ok (.iload_n 1, 1) := by decide +kernel
theorem dd_Ways_savedBetween_2 : decode prog_11_method_13_code 2 = .ok (.iload_n 2, 1) := by decide +kernel
theorem dd_Ways_savedBetween_3 : decode prog_11_method_13_code 3 = .ok (.bipush 7, 2) := by decide +kernel
theorem dd_Ways_savedBetween_5 : decode prog_11_method_13_code 5 = .ok (.invokevirtual 54, 3) := by decide +kernel
theorem dd_Ways_savedBetween_8 : decode prog_11_method_13_code 8 = .ok (.istore_n 3, 1) := by decide +kernel
theorem dd_Ways_savedBetween_9 : decode prog_11_method_13_code 9 = .ok (.iload_n 3, 1) := by decide +kernel
theorem dd_Ways_savedBetween_10 : decode prog_11_method_13_code 10 = .ok (.ifCond .ge 5, 3) := by decide +kernel
theorem dd_Ways_savedBetween_13 : decode prog_11_method_13_code 13 = .ok (.iconst (-1), 1) := by decide +kernel
theorem dd_Ways_savedBetween_14 : decode prog_11_method_13_code 14 = .ok (.ireturn, 1) := by decide +kernel
theorem dd_Ways_savedBetween_15 : decode prog_11_method_13_code 15 = .ok (.aload_n 0, 1) := by decide +kernel
theorem dd_Ways_savedBetween_16 : decode prog_11_method_13_code 16 = .ok (.iload_n 1, 1) := by decide +kernel
theorem dd_Ways_savedBetween_17 : decode prog_11_method_13_code 17 = .ok (.iload_n 2, 1) := by decide +kernel
theorem dd_Ways_savedBetween_18 : decode prog_11_method_13_code 18 = .ok (.invokevirtual 81, 3) := by decide +kernel
theorem dd_Ways_savedBetween_21 : decode prog_11_method_13_code 21 = .ok (.istore 4, 2) := by decide +kernel
theorem dd_Ways_savedBetween_23 : decode prog_11_method_13_code 23 = .ok (.iload 4, 2) := by decide +kernel
theorem dd_Ways_savedBetween_25 : decode prog_11_method_13_code 25 = .ok (.ifCond .ge 7, 3) := by decide +kernel
theorem dd_Ways_savedBetween_28 : decode prog_11_method_13_code 28 = .ok (.iconst 0, 1) := by decide +kernel
theorem dd_Ways_savedBetween_29 : decode prog_11_method_13_code 29 = .ok (.goto 7, 3) := by decide +kernel
theorem dd_Ways_savedBetween_32 : decode prog_11_method_13_code 32 = .ok (.iload 4, 2) := by decide +kernel
theorem dd_Ways_savedBetween_34 : decode prog_11_method_13_code 34 = .ok (.iload_n 3, 1) := by decide +kernel
theorem dd_Ways_savedBetween_35 : decode prog_11_method_13_code 35 = .ok (.isub, 1) := by decide +kernel
theorem dd_Ways_savedBetween_36 : decode prog_11_method_13_code 36 = .ok (.ireturn, 1) := by decide +kernel
def jx_Ways_savedBetween (p0 : Option Nat) (p1 : Int32) (p2 : Int32) : sf_M (Int32) :=
  sf_bnd (sf_rc 10 p0 (jx_Ways_least p0 p1 p2 (7 : Int32))) fun x1 =>
  if 0 ≤ x1 then (
  sf_bnd (sf_rc 10 p0 (jx_Ways_legOf p0 p1 p2)) fun x3 =>
  if 0 ≤ x3 then (
  sf_ret (x3 - x1)
  ) else (
  sf_ret (0 : Int32)
  )
  ) else (
  sf_ret (-1 : Int32)
  )
set_option maxRecDepth 20000 in
set_option maxHeartbeats 4000000 in
theorem ok_Ways_savedBetween (p0 : Option Nat) (p1 : Int32) (p2 : Int32) : sf_Ok ({ cls := "SplitFares$Ways", name := "savedBetween", desc := "(II)I" } : Jvm.MethodName) prog_11_method_13_code 5 (some .int) 3 [sf_rv p0, .int p1, .int p2] (jx_Ways_savedBetween p0 p1 p2) (fun r => some (.int r)) := by
  refine sf_Ok.of (env := [some (sf_rv p0), some (.int p1), some (.int p2), none, none]) (plainFor_of_name (by decide)) [false, false, false] (fun G => ⟨pk_r, pk_i, pk_i, trivial⟩) (Nat.le_of_ble_eq_true rfl) rfl (fun X => ?_)
  unfold jx_Ways_savedBetween
  refine fp_aload_n (i := 0) (r := p0) dd_Ways_savedBetween_0 rfl rfl (fr_pc (pc' := 1) rfl ?_)
  refine fp_iload_n (i := 1) (x := p1) dd_Ways_savedBetween_1 rfl rfl (fr_pc (pc' := 2) rfl ?_)
  refine fp_iload_n (i := 2) (x := p2) dd_Ways_savedBetween_2 rfl rfl (fr_pc (pc' := 3) rfl ?_)
  refine fp_bipush (v := (7 : Int32)) dd_Ways_savedBetween_3 (by decide) (fr_pc (pc' := 5) rfl ?_)
  refine fr_callV (stk := []) (As := [.int p1, .int p2, .int (7 : Int32)]) cl_10 (ok_Ways_least p0 p1 p2 (7 : Int32)) mt_Ways_least rfl rfl sw_938 sw_810 sw_811 (by decide) (Nat.le_of_ble_eq_true rfl) dd_Ways_savedBetween_5 (fun x1 => fr_to (pc' := 8) (env' := [some (sf_rv p0), some (.int p1), some (.int p2), none, none]) (stk' := [.int x1]) rfl rfl rfl ?_)
  refine fp_istore_n (i := 3) dd_Ways_savedBetween_8 rfl (Nat.le_of_ble_eq_true rfl) (fun _ => c1_i rfl) (fr_to (pc' := 9) (env' := [some (sf_rv p0), some (.int p1), some (.int p2), some (.int x1), none]) (stk' := []) rfl rfl rfl ?_)
  refine fp_iload_n (i := 3) (x := x1) dd_Ways_savedBetween_9 rfl rfl (fr_pc (pc' := 10) rfl ?_)
  refine fr_if_ge (tgt := 15) dd_Ways_savedBetween_10 rfl (fun _ => ?_) (fun _ => ?_)
  · refine fp_aload_n (i := 0) (r := p0) dd_Ways_savedBetween_15 rfl rfl (fr_pc (pc' := 16) rfl ?_)
    refine fp_iload_n (i := 1) (x := p1) dd_Ways_savedBetween_16 rfl rfl (fr_pc (pc' := 17) rfl ?_)
    refine fp_iload_n (i := 2) (x := p2) dd_Ways_savedBetween_17 rfl rfl (fr_pc (pc' := 18) rfl ?_)
    refine fr_callV (stk := []) (As := [.int p1, .int p2]) cl_10 (ok_Ways_legOf p0 p1 p2) mt_Ways_legOf rfl rfl sw_821 sw_823 sp_20 (by decide) (Nat.le_of_ble_eq_true rfl) dd_Ways_savedBetween_18 (fun x3 => fr_to (pc' := 21) (env' := [some (sf_rv p0), some (.int p1), some (.int p2), some (.int x1), none]) (stk' := [.int x3]) rfl rfl rfl ?_)
    refine fp_istore (i := 4) dd_Ways_savedBetween_21 (Nat.le_of_ble_eq_true rfl) (fun _ => c1_i rfl) (fr_to (pc' := 23) (env' := [some (sf_rv p0), some (.int p1), some (.int p2), some (.int x1), some (.int x3)]) (stk' := []) rfl rfl rfl ?_)
    refine fp_iload (i := 4) (x := x3) dd_Ways_savedBetween_23 rfl (fr_pc (pc' := 25) rfl ?_)
    refine fr_if_ge (tgt := 32) dd_Ways_savedBetween_25 rfl (fun _ => ?_) (fun _ => ?_)
    · refine fp_iload (i := 4) (x := x3) dd_Ways_savedBetween_32 rfl (fr_pc (pc' := 34) rfl ?_)
      refine fp_iload_n (i := 3) (x := x1) dd_Ways_savedBetween_34 rfl rfl (fr_pc (pc' := 35) rfl ?_)
      refine fp_isub dd_Ways_savedBetween_35 (fr_pc (pc' := 36) rfl ?_)
      exact fr_iret (v := (x3 - x1)) rfl rfl dd_Ways_savedBetween_36
    · refine fr_pc (pc' := 28) rfl ?_
      refine fp_iconst (v := (0 : Int32)) dd_Ways_savedBetween_28 (by decide) (fr_pc (pc' := 29) rfl ?_)
      refine fp_goto (tgt := 36) dd_Ways_savedBetween_29 rfl ?_
      exact fr_iret (v := (0 : Int32)) rfl rfl dd_Ways_savedBetween_36
  · refine fr_pc (pc' := 13) rfl ?_
    refine fp_iconst (v := (-1 : Int32)) dd_Ways_savedBetween_13 (by decide) (fr_pc (pc' := 14) rfl ?_)
    exact fr_iret (v := (-1 : Int32)) rfl rfl dd_Ways_savedBetween_14
