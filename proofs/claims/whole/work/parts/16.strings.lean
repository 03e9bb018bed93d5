/-! String constants: length, charAt. -/
section FPS
variable {X : sf_X} {Z : sf_Z} {env : List (Option Value)} {stk : List Value} {pc : Nat} {ρ : Type} {land : ρ → sf_L} {f : sf_M ρ}
theorem fp_getsC {index : Nat} (hl : Cond.fieldLink Z.1 index "java/lang/String" "COMPACT_STRINGS" "Z" ∈ sf_TB) (hd : decode Z.2.1 pc = .ok (.getstatic index, 3)) (k : sf_Fr X Z (sf_p (pc + 3) env (.int 1 :: stk)) f land) : sf_Fr X Z (sf_p pc env stk) f land := fr_st (L' := sf_p (pc + 3) env (.int 1 :: stk)) (fun C σ k H locs ls hH hl2 =>
  va_gets C.1 C.2.1 (C.kk.2.2.2.2.1.1.kept (sf_old C)) (sf_S C.2.2.2.2.2.2.1 C hH) C.2.2.2.1 (C.hts hl) (fun x h => h) hd (k H locs ls hH hl2)) k
theorem fp_getsS {index : Nat} (hl : Cond.fieldLink Z.1 index "jdk/internal/util/Preconditions" "SIOOBE_FORMATTER" "Ljava/util/function/BiFunction;" ∈ sf_TB) (hd : decode Z.2.1 pc = .ok (.getstatic index, 3)) (k : sf_Fr X Z (sf_p (pc + 3) env (.double 2 :: stk)) f land) : sf_Fr X Z (sf_p pc env stk) f land := fr_st (L' := sf_p (pc + 3) env (.double 2 :: stk)) (fun C σ k H locs ls hH hl2 =>
  va_gets C.1 C.2.1 (C.kk.2.2.2.2.1.2.kept (sf_old C)) (sf_S C.2.2.2.2.2.2.1 C hH) C.2.2.2.1 (C.hts hl) (fun x h => h) hd (k H locs ls hH hl2)) k
/-- the row of bytes of a String constant -/
def sf_va (w : UInt32) : UInt64 := UInt64.ofNat (3 + w.toNat)
theorem sf_va_nat {w : UInt32} (h : w.toNat < 24) : (sf_va w).toNat = 3 + w.toNat := by
  unfold sf_va
  rw [UInt64.toNat_ofNat']
  omega
theorem sf_va_cv {G : sf_G} {w : UInt32} (h : w.toNat < 24) {a : Nat} (e : G.2.2.2.2.2 (3 + w.toNat) = .ref a) : sf_cv G (.double (sf_va w)) = .ref a := by
  show (match G.2.2.2.2.2 (sf_va w).toNat with | .ref a => Value.ref a | _ => .null) = _
  rw [sf_va_nat h, e]
theorem fp_getSv {index : Nat} {w : UInt32} (hw : w.toNat < 24) (hl : Cond.fieldLink Z.1 index "java/lang/String" "value" "[B" ∈ sf_TB) (hd : decode Z.2.1 pc = .ok (.getfield index, 3)) (k : sf_Fr X Z (sf_p (pc + 3) env (.double (sf_va w) :: stk)) f land) : sf_Fr X Z (sf_p pc env (.float w :: stk)) f land := fr_st (L' := sf_p (pc + 3) env (.double (sf_va w) :: stk)) (fun C σ k H locs ls hH hl2 => by
  obtain ⟨adV, e1, hvk⟩ := C.kk.2.2.2.2.2.1
  have hk := k H locs ls hH hl2
  refine vk_getf C.1 C.2.1 (hvk.kept (sf_old C) |>.1 w.toNat hw).2.2.1 (sf_S C.2.2.2.2.2.2.1 C hH) C.2.2.2.1 (C.hts hl) (fun x h => h) hd ?_
  rw [← sf_va_cv hw (e1 _ hw)]
  exact hk) k
theorem fp_getSc {index : Nat} {w : UInt32} (hw : w.toNat < 24) (hl : Cond.fieldLink Z.1 index "java/lang/String" "coder" "B" ∈ sf_TB) (hd : decode Z.2.1 pc = .ok (.getfield index, 3)) (k : sf_Fr X Z (sf_p (pc + 3) env (.int 0 :: stk)) f land) : sf_Fr X Z (sf_p pc env (.float w :: stk)) f land := fr_st (L' := sf_p (pc + 3) env (.int 0 :: stk)) (fun C σ k H locs ls hH hl2 => by
  obtain ⟨adV, e1, hvk⟩ := C.kk.2.2.2.2.2.1
  exact vk_getf C.1 C.2.1 (hvk.kept (sf_old C) |>.1 w.toNat hw).2.1 (sf_S C.2.2.2.2.2.2.1 C hH) C.2.2.2.1 (C.hts hl) (fun x h => h) hd (k H locs ls hH hl2)) k
theorem fp_lenS {w : UInt32} (hw : w.toNat < 24) (hd : decode Z.2.1 pc = .ok (.arraylength, 1)) (k : sf_Fr X Z (sf_p (pc + 1) env (.int (Int32.ofNat (sf_strL.getD w.toNat 0)) :: stk)) f land) : sf_Fr X Z (sf_p pc env (.double (sf_va w) :: stk)) f land := fr_st (L' := sf_p (pc + 1) env (.int (Int32.ofNat (sf_strL.getD w.toNat 0)) :: stk)) (fun C σ k H locs ls hH hl2 => by
  obtain ⟨adV, e1, hvk⟩ := C.kk.2.2.2.2.2.1
  obtain ⟨cell, g1, g2, g3, g4, g5, g6, g7⟩ := (hvk.1 w.toNat hw).2.2.2
  show sf_W X H locs _ _ (F0 (sf_Xm X) pc ls (sf_cv (sf_XG X) (.double (sf_va w)) :: stk.map (sf_cv (sf_XG X))))
  rw [sf_va_cv hw (e1 _ hw)]
  exact W.alen (n := Int32.ofNat (sf_strL.getD w.toNat 0)) C.1 C.2.1 (by rw [hH.1.2.1 _ (by omega)]; exact g1) g2 g5 rfl rfl hd (k H locs ls hH hl2)) k
theorem fp_baS {w : UInt32} {i : Int32} (hw : w.toNat < 24) (h0 : 0 ≤ i.toInt) (h1 : i.toInt < sf_strL.getD w.toNat 0) (hd : decode Z.2.1 pc = .ok (.baload, 1)) (k : sf_Fr X Z (sf_p (pc + 1) env (.int ((sf_strB.getD w.toNat []).getD (sf_ix i) 0) :: stk)) f land) : sf_Fr X Z (sf_p pc env (.int i :: .double (sf_va w) :: stk)) f land := fr_st (L' := sf_p (pc + 1) env (.int ((sf_strB.getD w.toNat []).getD (sf_ix i) 0) :: stk)) (fun C σ k H locs ls hH hl2 => by
  obtain ⟨adV, e1, hvk⟩ := C.kk.2.2.2.2.2.1
  obtain ⟨cell, g1, g2, g3, g4, g5, g6, g7⟩ := (hvk.1 w.toNat hw).2.2.2
  have h2 := (sf_in_of h0 h1).2
  have hi0 : ¬ i < 0 := fun q => (sf_in_of h0 h1).1 (Or.inl q)
  show sf_W X H locs _ _ (F0 (sf_Xm X) pc ls (.int i :: sf_cv (sf_XG X) (.double (sf_va w)) :: stk.map (sf_cv (sf_XG X))))
  rw [sf_va_cv hw (e1 _ hw)]
  refine W.bald C.1 C.2.1 (by rw [hH.1.2.1 _ (by omega)]; exact g1) g2 g3 (fun q => ?_) (g6 _ h2) rfl rfl hd (k H locs ls hH hl2)
  rcases q with q | q
  · exact hi0 q
  · omega) k
theorem fp_aload_nd {q : Fin 4} {i : Nat} {x : UInt64} (hd : decode Z.2.1 pc = .ok (.aload_n q, 1)) (hi : (q : Nat) = i) (he : env[i]? = some (some (.double x))) (k : sf_Fr X Z (sf_p (pc + 1) env (.double x :: stk)) f land) : sf_Fr X Z (sf_p pc env stk) f land := fr_st (L' := sf_p (pc + 1) env (.double x :: stk)) (fun C σ k H locs ls hH hl => by
  have h1 := hl.2.2 _ (sf_el_mem (G := sf_XG X) he)
  have h2 := k H locs ls hH hl
  have h2' : sf_W X H locs (sf_cn σ - sf_Xk X) (sf_sn σ - sf_Xj X) (F0 (sf_Xm X) (pc + 1) ls (sf_cv (sf_XG X) (.double x) :: stk.map (sf_cv (sf_XG X)))) := h2
  have key : sf_cv (sf_XG X) (.double x) = .null ∨ ∃ a, sf_cv (sf_XG X) (.double x) = .ref a := by
    simp only [sf_cv]
    split
    · exact Or.inr ⟨_, rfl⟩
    · exact Or.inl rfl
  rcases key with e | ⟨a, e⟩
  · rw [e] at h1 h2'
    exact lv_aload_nN C.1 C.2.1 hd hi h1 h2'
  · rw [e] at h1 h2'
    exact lv_aload_n C.1 C.2.1 hd hi h1 h2') k
theorem fp_i2c {x : Int32} (hd : decode Z.2.1 pc = .ok (.i2c, 1)) (k : sf_Fr X Z (sf_p (pc + 1) env (.int (x.toUInt32 % 65536).toInt32 :: stk)) f land) : sf_Fr X Z (sf_p pc env (.int x :: stk)) f land := fr_st (L' := sf_p (pc + 1) env (.int (x.toUInt32 % 65536).toInt32 :: stk)) (fun C σ k H locs ls hH hl => lv_i2c C.1 C.2.1 hd rfl (k H locs ls hH hl)) k
theorem fr_cret {r : ρ} {v : Int32} (hl : land r = .inr (some (.int v))) (hr : Z.2.2.2.2.1 = some .char) (hv : narrow .char (.int v) = .int v) (hd : decode Z.2.1 pc = .ok (.ireturn, 1)) : sf_Fr X Z (sf_p pc env [.int v]) (sf_ret r) land := ⟨sf_Gr.ret r, fun C σ r' σ' e _ k => by
  cases e
  rw [hl] at k
  intro H locs ls hH _
  exact k H locs ls pc hH (by rw [C.2.1]; exact hd) (by rw [C.2.2.2.2.2.2.2.2.2.2.2.1, hr]; exact hv)⟩
theorem fr_bret {r : ρ} {v : Int32} (hl : land r = .inr (some (.int v))) (hr : Z.2.2.2.2.1 = some .byte) (hv : narrow .byte (.int v) = .int v) (hd : decode Z.2.1 pc = .ok (.ireturn, 1)) : sf_Fr X Z (sf_p pc env [.int v]) (sf_ret r) land := ⟨sf_Gr.ret r, fun C σ r' σ' e _ k => by
  cases e
  rw [hl] at k
  intro H locs ls hH _
  exact k H locs ls pc hH (by rw [C.2.1]; exact hd) (by rw [C.2.2.2.2.2.2.2.2.2.2.2.1, hr]; exact hv)⟩
/-- a step under a test that is known -/
theorem fr_eq {L : sf_L} {f f' : sf_M ρ} (h : f' = f) (k : sf_Fr X Z L f' land) : sf_Fr X Z L f land := h ▸ k
theorem fr_then {c : Prop} [Decidable c] {L : sf_L} {f g : sf_M ρ} (h : c) (k : sf_Fr X Z L (if c then f else g) land) : sf_Fr X Z L f land := by rw [if_pos h] at k; exact k
end FPS

theorem mt_String_length : sf_Mt ({ cls := "java/lang/String", name := "length", desc := "()I" } : Jvm.MethodName) prog_16_method_54_code 1 (some .int) 0 := ⟨sw_559, sw_15, ⟨by decide, by decide, by decide +kernel⟩, by decide⟩
theorem mt_String_coder : sf_Mt ({ cls := "java/lang/String", name := "coder", desc := "()B" } : Jvm.MethodName) prog_16_method_152_code 1 (some .byte) 0 := ⟨sw_563, sw_15, ⟨by decide, by decide, by decide +kernel⟩, by decide⟩
theorem mt_String_charAt : sf_Mt ({ cls := "java/lang/String", name := "charAt", desc := "(I)C" } : Jvm.MethodName) prog_16_method_56_code 2 (some .char) 1 := ⟨sw_573, sw_15, ⟨by decide, by decide, by decide +kernel⟩, by decide⟩
theorem mt_String_isLatin1 : sf_Mt ({ cls := "java/lang/String", name := "isLatin1", desc := "()Z" } : Jvm.MethodName) prog_16_method_154_code 1 (some .boolean) 0 := ⟨sw_577, sw_15, ⟨by decide, by decide, by decide +kernel⟩, by decide⟩
theorem mt_Latin_charAt : sf_Mt ({ cls := "java/lang/StringLatin1", name := "charAt", desc := "([BI)C" } : Jvm.MethodName) prog_17_method_2_code 2 (some .char) 2 := ⟨sw_580, sw_16, ⟨by decide, by decide, by decide +kernel⟩, by decide⟩
theorem mt_String_checkIndex : sf_Mt ({ cls := "java/lang/String", name := "checkIndex", desc := "(II)V" } : Jvm.MethodName) prog_16_method_155_code 2 none 2 := ⟨sw_583, sw_15, ⟨by decide, by decide, by decide +kernel⟩, by decide⟩
theorem mt_Pre_checkIndex : sf_Mt ({ cls := "jdk/internal/util/Preconditions", name := "checkIndex", desc := "(IILjava/util/function/BiFunction;)I" } : Jvm.MethodName) prog_21_method_11_code 3 (some .int) 3 := ⟨sw_588, sw_17, ⟨by decide, by decide, by decide +kernel⟩, by decide⟩
theorem dd_String_coder_0 : decode prog_16_method_152_code 0 = .ok (.getstatic 38, 3) := by decide +kernel
theorem dd_String_coder_3 : decode prog_16_method_152_code 3 = .ok (.ifCond .eq 10, 3) := by decide +kernel
theorem dd_String_coder_6 : decode prog_16_method_152_code 6 = .ok (.aload_n 0, 1) := by decide +kernel
theorem dd_String_coder_7 : decode prog_16_method_152_code 7 = .ok (.getfield 15, 3) := by decide +kernel
theorem dd_String_coder_10 : decode prog_16_method_152_code 10 = .ok (.goto 4, 3) := by decide +kernel
theorem dd_String_coder_14 : decode prog_16_method_152_code 14 = .ok (.ireturn, 1) := by decide +kernel
theorem dd_String_isLatin1_0 : decode prog_16_method_154_code 0 = .ok (.getstatic 38, 3) := by decide +kernel
theorem dd_String_isLatin1_3 : decode prog_16_method_154_code 3 = .ok (.ifCond .eq 14, 3) := by decide +kernel
theorem dd_String_isLatin1_6 : decode prog_16_method_154_code 6 = .ok (.aload_n 0, 1) := by decide +kernel
theorem dd_String_isLatin1_7 : decode prog_16_method_154_code 7 = .ok (.getfield 15, 3) := by decide +kernel
theorem dd_String_isLatin1_10 : decode prog_16_method_154_code 10 = .ok (.ifCond .ne 7, 3) := by decide +kernel
theorem dd_String_isLatin1_13 : decode prog_16_method_154_code 13 = .ok (.iconst 1, 1) := by decide +kernel
theorem dd_String_isLatin1_14 : decode prog_16_method_154_code 14 = .ok (.goto 4, 3) := by decide +kernel
theorem dd_String_isLatin1_18 : decode prog_16_method_154_code 18 = .ok (.ireturn, 1) := by decide +kernel
theorem dd_String_length_0 : decode prog_16_method_54_code 0 = .ok (.aload_n 0, 1) := by decide +kernel
theorem dd_String_length_1 : decode prog_16_method_54_code 1 = .ok (.getfield 9, 3) := by decide +kernel
theorem dd_String_length_4 : decode prog_16_method_54_code 4 = .ok (.arraylength, 1) := by decide +kernel
theorem dd_String_length_5 : decode prog_16_method_54_code 5 = .ok (.aload_n 0, 1) := by decide +kernel
theorem dd_String_length_6 : decode prog_16_method_54_code 6 = .ok (.invokevirtual 335, 3) := by decide +kernel
theorem dd_String_length_9 : decode prog_16_method_54_code 9 = .ok (.ishr, 1) := by decide +kernel
theorem dd_String_length_10 : decode prog_16_method_54_code 10 = .ok (.ireturn, 1) := by decide +kernel
theorem dd_String_charAt_0 : decode prog_16_method_56_code 0 = .ok (.aload_n 0, 1) := by decide +kernel
theorem dd_String_charAt_1 : decode prog_16_method_56_code 1 = .ok (.invokevirtual 492, 3) := by decide +kernel
theorem dd_String_charAt_4 : decode prog_16_method_56_code 4 = .ok (.ifCond .eq 12, 3) := by decide +kernel
theorem dd_String_charAt_7 : decode prog_16_method_56_code 7 = .ok (.aload_n 0, 1) := by decide +kernel
theorem dd_String_charAt_8 : decode prog_16_method_56_code 8 = .ok (.getfield 9, 3) := by decide +kernel
theorem dd_String_charAt_11 : decode prog_16_method_56_code 11 = .ok (.iload_n 1, 1) := by decide +kernel
theorem dd_String_charAt_12 : decode prog_16_method_56_code 12 = .ok (.invokestatic 495, 3) := by decide +kernel
theorem dd_String_charAt_15 : decode prog_16_method_56_code 15 = .ok (.ireturn, 1) := by decide +kernel
theorem dd_Latin_charAt_0 : decode prog_17_method_2_code 0 = .ok (.iload_n 1, 1) := by decide +kernel
theorem dd_Latin_charAt_1 : decode prog_17_method_2_code 1 = .ok (.aload_n 0, 1) := by decide +kernel
theorem dd_Latin_charAt_2 : decode prog_17_method_2_code 2 = .ok (.arraylength, 1) := by decide +kernel
theorem dd_Latin_charAt_3 : decode prog_17_method_2_code 3 = .ok (.invokestatic 9, 3) := by decide +kernel
theorem dd_Latin_charAt_6 : decode prog_17_method_2_code 6 = .ok (.aload_n 0, 1) := by decide +kernel
theorem dd_Latin_charAt_7 : decode prog_17_method_2_code 7 = .ok (.iload_n 1, 1) := by decide +kernel
theorem dd_Latin_charAt_8 : decode prog_17_method_2_code 8 = .ok (.baload, 1) := by decide +kernel
theorem dd_Latin_charAt_9 : decode prog_17_method_2_code 9 = .ok (.sipush 255, 3) := by decide +kernel
theorem dd_Latin_charAt_12 : decode prog_17_method_2_code 12 = .ok (.iand, 1) := by decide +kernel
theorem dd_Latin_charAt_13 : decode prog_17_method_2_code 13 = .ok (.i2c, 1) := by decide +kernel
theorem dd_Latin_charAt_14 : decode prog_17_method_2_code 14 = .ok (.ireturn, 1) := by decide +kernel
theorem dd_String_checkIndex_0 : decode prog_16_method_155_code 0 = .ok (.iload_n 0, 1) := by decide +kernel
theorem dd_String_checkIndex_1 : decode prog_16_method_155_code 1 = .ok (.iload_n 1, 1) := by decide +kernel
theorem dd_String_checkIndex_2 : decode prog_16_method_155_code 2 = .ok (.getstatic 1053, 3) := by decide +kernel
theorem dd_String_checkIndex_5 : decode prog_16_method_155_code 5 = .ok (.invokestatic 1059, 3) := by decide +kernel
theorem dd_String_checkIndex_8 : decode prog_16_method_155_code 8 = .ok (.pop, 1) := by decide +kernel
theorem dd_String_checkIndex_9 : decode prog_16_method_155_code 9 = .ok (.return_, 1) := by decide +kernel
theorem dd_Pre_checkIndex_0 : decode prog_21_method_11_code 0 = .ok (.iload_n 0, 1) := by decide +kernel
theorem dd_Pre_checkIndex_1 : decode prog_21_method_11_code 1 = .ok (.ifCond .lt 8, 3) := by decide +kernel
theorem dd_Pre_checkIndex_4 : decode prog_21_method_11_code 4 = .ok (.iload_n 0, 1) := by decide +kernel
theorem dd_Pre_checkIndex_5 : decode prog_21_method_11_code 5 = .ok (.iload_n 1, 1) := by decide +kernel
theorem dd_Pre_checkIndex_6 : decode prog_21_method_11_code 6 = .ok (.if_icmp .lt 10, 3) := by decide +kernel
theorem dd_Pre_checkIndex_16 : decode prog_21_method_11_code 16 = .ok (.iload_n 0, 1) := by decide +kernel
theorem dd_Pre_checkIndex_17 : decode prog_21_method_11_code 17 = .ok (.ireturn, 1) := by decide +kernel
set_option maxRecDepth 20000 in
theorem ok0_String_coder (w : UInt32) (hw : w.toNat < 24) : sf_Ok ({ cls := "java/lang/String", name := "coder", desc := "()B" } : Jvm.MethodName) prog_16_method_152_code 1 (some .byte) 0 [.float w] (sf_ret (0 : Int32)) (fun r => some (.int r)) := by
  refine sf_Ok.of (env := [some (.float w)]) (by decide +kernel) [false] (fun G => ⟨pk_s, trivial⟩) (Nat.le_of_ble_eq_true rfl) rfl (fun X => ?_)
  refine fp_getsC sw_564 dd_String_coder_0 (fr_pc (pc' := 3) rfl ?_)
  refine fr_eq (f' := (if (1 : Int32) = 0 then sf_nil else sf_ret (0 : Int32))) ?_ ?_
  · rw [if_neg (by decide)]
  · refine fr_if_eq (tgt := 13) dd_String_coder_3 rfl (fun h => absurd h (by decide)) (fun _ => fr_pc (pc' := 6) rfl ?_)
    refine fp_aload_ns (i := 0) (x := w) dd_String_coder_6 rfl rfl (fr_pc (pc' := 7) rfl ?_)
    refine fp_getSc hw sw_1797 dd_String_coder_7 (fr_pc (pc' := 10) rfl ?_)
    refine fp_goto (tgt := 14) dd_String_coder_10 rfl ?_
    exact fr_bret (v := (0 : Int32)) rfl rfl rfl dd_String_coder_14
set_option maxRecDepth 20000 in
theorem ok0_String_isLatin1 (w : UInt32) (hw : w.toNat < 24) : sf_Ok ({ cls := "java/lang/String", name := "isLatin1", desc := "()Z" } : Jvm.MethodName) prog_16_method_154_code 1 (some .boolean) 0 [.float w] (sf_ret (1 : Int32)) (fun r => some (.int r)) := by
  refine sf_Ok.of (env := [some (.float w)]) (by decide +kernel) [false] (fun G => ⟨pk_s, trivial⟩) (Nat.le_of_ble_eq_true rfl) rfl (fun X => ?_)
  refine fp_getsC sw_564 dd_String_isLatin1_0 (fr_pc (pc' := 3) rfl ?_)
  refine fr_eq (f' := (if (1 : Int32) = 0 then sf_nil else (if (0 : Int32) = 0 then sf_ret (1 : Int32) else sf_nil))) ?_ ?_
  · rw [if_neg (by decide), if_pos rfl]
  · refine fr_if_eq (tgt := 17) dd_String_isLatin1_3 rfl (fun h => absurd h (by decide)) (fun _ => fr_pc (pc' := 6) rfl ?_)
    refine fp_aload_ns (i := 0) (x := w) dd_String_isLatin1_6 rfl rfl (fr_pc (pc' := 7) rfl ?_)
    refine fp_getSc hw sw_1797 dd_String_isLatin1_7 (fr_pc (pc' := 10) rfl ?_)
    refine fr_if_ne (tgt := 17) dd_String_isLatin1_10 rfl (fun _ => fr_pc (pc' := 13) rfl ?_) (fun h => absurd rfl h)
    refine fp_iconst (v := (1 : Int32)) dd_String_isLatin1_13 (by decide) (fr_pc (pc' := 14) rfl ?_)
    refine fp_goto (tgt := 18) dd_String_isLatin1_14 rfl ?_
    exact fr_zret0 (v := (1 : Int32)) (Or.inr rfl) rfl rfl dd_String_isLatin1_18
/-- a call of what only answers -/
theorem sf_rs_ret {α β : Type} {w : UInt32} (hw : w.toNat < 24) (r : α) (g : α → sf_M β) : sf_bnd (sf_rs w (sf_ret r)) g = g r := by
  funext σ
  unfold sf_bnd sf_rs
  rw [if_pos hw]
  rfl
set_option maxRecDepth 20000 in
theorem ok0_String_length (w : UInt32) (hw : w.toNat < 24) : sf_Ok ({ cls := "java/lang/String", name := "length", desc := "()I" } : Jvm.MethodName) prog_16_method_54_code 1 (some .int) 2 [.float w] (sf_ret (Int32.ofNat (sf_strL.getD w.toNat 0))) (fun r => some (.int r)) := by
  refine sf_Ok.of (env := [some (.float w)]) (by decide +kernel) [false] (fun G => ⟨pk_s, trivial⟩) (Nat.le_of_ble_eq_true rfl) rfl (fun X => ?_)
  refine fp_aload_ns (i := 0) (x := w) dd_String_length_0 rfl rfl (fr_pc (pc' := 1) rfl ?_)
  refine fp_getSv hw sw_1796 dd_String_length_1 (fr_pc (pc' := 4) rfl ?_)
  refine fp_lenS hw dd_String_length_4 (fr_pc (pc' := 5) rfl ?_)
  refine fp_aload_ns (i := 0) (x := w) dd_String_length_5 rfl rfl (fr_pc (pc' := 6) rfl ?_)
  refine fr_eq (f' := (sf_bnd (sf_rs w (sf_ret (0 : Int32))) (fun c => sf_ret ((Int32.ofNat (sf_strL.getD w.toNat 0)) >>> (c &&& 31))))) ?_ ?_
  · have e : Int32.ofNat (sf_strL.getD w.toNat 0) >>> ((0 : Int32) &&& 31) = Int32.ofNat (sf_strL.getD w.toNat 0) := by
      have : ∀ k, k < 24 → Int32.ofNat (sf_strL.getD k 0) >>> ((0 : Int32) &&& 31) = Int32.ofNat (sf_strL.getD k 0) := by decide +kernel
      exact this _ hw
    rw [sf_rs_ret hw]
    rw [e]
  · refine fr_callStr (stk := [.int (Int32.ofNat (sf_strL.getD w.toNat 0))]) (As := []) rfl (ok0_String_coder w hw) mt_String_coder rfl rfl sw_560 sw_561 sw_562 (by decide) (Nat.le_of_ble_eq_true rfl) dd_String_length_6 (fun c => fr_to (pc' := 9) (env' := _) (stk' := [.int c, .int (Int32.ofNat (sf_strL.getD w.toNat 0))]) rfl rfl rfl ?_)
    refine fp_ishr dd_String_length_9 (fr_pc (pc' := 10) rfl ?_)
    exact fr_iret rfl rfl dd_String_length_10
set_option maxRecDepth 20000 in
theorem ok0_Pre_checkIndex (i n : Int32) (h0 : ¬ i < 0) (h1 : i < n) : sf_Ok ({ cls := "jdk/internal/util/Preconditions", name := "checkIndex", desc := "(IILjava/util/function/BiFunction;)I" } : Jvm.MethodName) prog_21_method_11_code 3 (some .int) 0 [.int i, .int n, .double 2] (sf_ret i) (fun r => some (.int r)) := by
  refine sf_Ok.of (env := [some (.int i), some (.int n), some (.double 2)]) (by decide +kernel) [false, false, false] (fun G => ⟨pk_i, pk_i, pk_d, trivial⟩) (Nat.le_of_ble_eq_true rfl) rfl (fun X => ?_)
  refine fp_iload_n (i := 0) (x := i) dd_Pre_checkIndex_0 rfl rfl (fr_pc (pc' := 1) rfl ?_)
  refine fr_eq (f' := (if i < 0 then sf_nil else (if i < n then sf_ret i else sf_nil))) ?_ ?_
  · rw [if_neg h0, if_pos h1]
  · refine fr_if_lt (tgt := 9) dd_Pre_checkIndex_1 rfl (fun h => absurd h h0) (fun _ => fr_pc (pc' := 4) rfl ?_)
    refine fp_iload_n (i := 0) (x := i) dd_Pre_checkIndex_4 rfl rfl (fr_pc (pc' := 5) rfl ?_)
    refine fp_iload_n (i := 1) (x := n) dd_Pre_checkIndex_5 rfl rfl (fr_pc (pc' := 6) rfl ?_)
    refine fr_icmp_lt (tgt := 16) dd_Pre_checkIndex_6 rfl (fun _ => ?_) (fun h => absurd h1 h)
    refine fp_iload_n (i := 0) (x := i) dd_Pre_checkIndex_16 rfl rfl (fr_pc (pc' := 17) rfl ?_)
    exact fr_iret rfl rfl dd_Pre_checkIndex_17
set_option maxRecDepth 20000 in
theorem ok0_String_checkIndex (i n : Int32) (h0 : ¬ i < 0) (h1 : i < n) : sf_Ok ({ cls := "java/lang/String", name := "checkIndex", desc := "(II)V" } : Jvm.MethodName) prog_16_method_155_code 2 none 1 [.int i, .int n] (sf_ret ()) (fun _ => none) := by
  refine sf_Ok.of (env := [some (.int i), some (.int n)]) (by decide +kernel) [false, false] (fun G => ⟨pk_i, pk_i, trivial⟩) (Nat.le_of_ble_eq_true rfl) rfl (fun X => ?_)
  refine fp_iload_n (i := 0) (x := i) dd_String_checkIndex_0 rfl rfl (fr_pc (pc' := 1) rfl ?_)
  refine fp_iload_n (i := 1) (x := n) dd_String_checkIndex_1 rfl rfl (fr_pc (pc' := 2) rfl ?_)
  refine fp_getsS sw_584 dd_String_checkIndex_2 (fr_pc (pc' := 5) rfl ?_)
  refine fr_eq (f' := (sf_bnd (sf_ret i) (fun _ => sf_ret ()))) ?_ ?_
  · rfl
  · refine fr_callS (stk := []) (ok0_Pre_checkIndex i n h0 h1) mt_Pre_checkIndex rfl rfl sw_586 sw_587 (by decide) (Nat.le_of_ble_eq_true rfl) dd_String_checkIndex_5 (fun c => fr_to (pc' := 8) (env' := _) (stk' := [.int c]) rfl rfl rfl ?_)
    refine fp_pop_i dd_String_checkIndex_8 (fr_pc (pc' := 9) rfl ?_)
    exact fr_vret rfl rfl dd_String_checkIndex_9
/-- the character at i -/
def sf_chr (w : UInt32) (i : Int32) : Int32 := (sf_strB.getD w.toNat []).getD (sf_ix i) 0
theorem sf_chr_ok {w : UInt32} {i : Int32} (hw : w.toNat < 24) (h0 : 0 ≤ i.toInt) (h1 : i.toInt < sf_strL.getD w.toNat 0) : ((sf_chr w i &&& 255).toUInt32 % 65536).toInt32 = sf_chr w i ∧ narrow .char (.int (sf_chr w i)) = .int (sf_chr w i) := by
  have hL : ∀ k, k < 24 → sf_strL.getD k 0 ≤ 6 := by decide +kernel
  have key : ∀ k, k < 24 → ∀ j, j < 6 → ((((sf_strB.getD k []).getD j 0) &&& 255).toUInt32 % 65536).toInt32 = (sf_strB.getD k []).getD j 0 ∧ narrow .char (.int ((sf_strB.getD k []).getD j 0)) = .int ((sf_strB.getD k []).getD j 0) := by decide +kernel
  have h2 := (sf_in_of h0 h1).2
  have h3 := hL _ hw
  exact key _ hw _ (Nat.lt_of_lt_of_le h2 h3)
set_option maxRecDepth 20000 in
theorem ok0_Latin_charAt (w : UInt32) (i : Int32) (hw : w.toNat < 24) (h0 : 0 ≤ i.toInt) (h1 : i.toInt < sf_strL.getD w.toNat 0) : sf_Ok ({ cls := "java/lang/StringLatin1", name := "charAt", desc := "([BI)C" } : Jvm.MethodName) prog_17_method_2_code 2 (some .char) 2 [.double (sf_va w), .int i] (sf_ret (sf_chr w i)) (fun r => some (.int r)) := by
  refine sf_Ok.of (env := [some (.double (sf_va w)), some (.int i)]) (by decide +kernel) [false, false] (fun G => ⟨pk_d, pk_i, trivial⟩) (Nat.le_of_ble_eq_true rfl) rfl (fun X => ?_)
  have g0 : ¬ i < 0 := fun q => (sf_in_of h0 h1).1 (Or.inl q)
  have hL : ∀ k, k < 24 → sf_strL.getD k 0 ≤ 6 := by decide +kernel
  have g1 : i < Int32.ofNat (sf_strL.getD w.toNat 0) := by
    have h3 := hL _ hw
    rw [Int32.lt_iff_toInt_lt, show (Int32.ofNat (sf_strL.getD w.toNat 0)).toInt = (sf_strL.getD w.toNat 0 : Int) from nI_toInt (by omega)]
    exact h1
  refine fp_iload_n (i := 1) (x := i) dd_Latin_charAt_0 rfl rfl (fr_pc (pc' := 1) rfl ?_)
  refine fp_aload_nd (i := 0) (x := sf_va w) dd_Latin_charAt_1 rfl rfl (fr_pc (pc' := 2) rfl ?_)
  refine fp_lenS hw dd_Latin_charAt_2 (fr_pc (pc' := 3) rfl ?_)
  refine fr_eq (f' := (sf_bnd (sf_ret ()) (fun _ => sf_ret (sf_chr w i)))) ?_ ?_
  · rfl
  · refine fr_callS (stk := []) (ok0_String_checkIndex i (Int32.ofNat (sf_strL.getD w.toNat 0)) g0 g1) mt_String_checkIndex rfl rfl sw_581 sw_582 (by decide) (Nat.le_of_ble_eq_true rfl) dd_Latin_charAt_3 (fun c => fr_to (pc' := 6) (env' := _) (stk' := []) rfl rfl rfl ?_)
    refine fp_aload_nd (i := 0) (x := sf_va w) dd_Latin_charAt_6 rfl rfl (fr_pc (pc' := 7) rfl ?_)
    refine fp_iload_n (i := 1) (x := i) dd_Latin_charAt_7 rfl rfl (fr_pc (pc' := 8) rfl ?_)
    refine fp_baS hw h0 h1 dd_Latin_charAt_8 (fr_pc (pc' := 9) rfl ?_)
    refine fp_sipush (v := (255 : Int32)) dd_Latin_charAt_9 (by decide) (fr_pc (pc' := 12) rfl ?_)
    refine fp_iand dd_Latin_charAt_12 (fr_pc (pc' := 13) rfl ?_)
    refine fp_i2c dd_Latin_charAt_13 (fr_pc (pc' := 14) rfl ?_)
    refine fr_to (pc' := 14) (env' := _) (stk' := [.int (sf_chr w i)]) rfl rfl (by rw [show (sf_strB.getD w.toNat []).getD (sf_ix i) 0 = sf_chr w i from rfl, (sf_chr_ok hw h0 h1).1]) ?_
    exact fr_cret rfl rfl (sf_chr_ok hw h0 h1).2 dd_Latin_charAt_14
set_option maxRecDepth 20000 in
theorem ok0_String_charAt (w : UInt32) (i : Int32) (hw : w.toNat < 24) (h0 : 0 ≤ i.toInt) (h1 : i.toInt < sf_strL.getD w.toNat 0) : sf_Ok ({ cls := "java/lang/String", name := "charAt", desc := "(I)C" } : Jvm.MethodName) prog_16_method_56_code 2 (some .char) 5 [.float w, .int i] (sf_ret (sf_chr w i)) (fun r => some (.int r)) := by
  refine sf_Ok.of (env := [some (.float w), some (.int i)]) (by decide +kernel) [false, false] (fun G => ⟨pk_s, pk_i, trivial⟩) (Nat.le_of_ble_eq_true rfl) rfl (fun X => ?_)
  refine fp_aload_ns (i := 0) (x := w) dd_String_charAt_0 rfl rfl (fr_pc (pc' := 1) rfl ?_)
  refine fr_eq (f' := (sf_bnd (sf_rs w (sf_ret (1 : Int32))) (fun c => if c = 0 then sf_nil else sf_bnd (sf_ret (sf_chr w i)) (fun r => if r = sf_chr w i then sf_ret (sf_chr w i) else sf_nil)))) ?_ ?_
  · have e : sf_bnd (sf_ret (sf_chr w i)) (fun r => if r = sf_chr w i then sf_ret (sf_chr w i) else sf_nil) = sf_ret (sf_chr w i) := by
      funext σ
      show (if sf_chr w i = sf_chr w i then sf_ret (sf_chr w i) else sf_nil) σ = _
      rw [if_pos rfl]
    rw [sf_rs_ret hw, if_neg (by decide)]
    rw [e]
  · refine fr_callStr (stk := []) (As := []) rfl (ok0_String_isLatin1 w hw) mt_String_isLatin1 rfl rfl sw_574 sw_575 sw_576 (by decide) (Nat.le_of_ble_eq_true rfl) dd_String_charAt_1 (fun c => fr_to (pc' := 4) (env' := _) (stk' := [.int c]) rfl rfl rfl ?_)
    refine fr_if_eq (tgt := 16) dd_String_charAt_4 rfl (fun _ => fr_nil) (fun _ => fr_pc (pc' := 7) rfl ?_)
    refine fp_aload_ns (i := 0) (x := w) dd_String_charAt_7 rfl rfl (fr_pc (pc' := 8) rfl ?_)
    refine fp_getSv hw sw_1796 dd_String_charAt_8 (fr_pc (pc' := 11) rfl ?_)
    refine fp_iload_n (i := 1) (x := i) dd_String_charAt_11 rfl rfl (fr_pc (pc' := 12) rfl ?_)
    refine fr_callS (stk := []) (ok0_Latin_charAt w i hw h0 h1) mt_Latin_charAt rfl rfl sw_578 sw_579 (by decide) (Nat.le_of_ble_eq_true rfl) dd_String_charAt_12 (fun r => fr_to (pc' := 15) (env' := _) (stk' := [.int r]) rfl rfl rfl ?_)
    by_cases hr : r = sf_chr w i
    · rw [if_pos hr, hr]
      exact fr_cret rfl rfl (sf_chr_ok hw h0 h1).2 dd_String_charAt_15
    · rw [if_neg hr]
      exact fr_nil
/-- word.length(), word.charAt(i) -/
def jx_String_length (w : UInt32) : sf_M Int32 := if w.toNat < 24 then sf_ret (Int32.ofNat (sf_strL.getD w.toNat 0)) else sf_nil
def jx_String_charAt (w : UInt32) (i : Int32) : sf_M Int32 := if w.toNat < 24 ∧ 0 ≤ i.toInt ∧ i.toInt < sf_strL.getD w.toNat 0 then sf_ret (sf_chr w i) else sf_nil
theorem ok_String_length (w : UInt32) : sf_Ok ({ cls := "java/lang/String", name := "length", desc := "()I" } : Jvm.MethodName) prog_16_method_54_code 1 (some .int) 2 [.float w] (jx_String_length w) (fun r => some (.int r)) := by
  unfold jx_String_length
  by_cases h : w.toNat < 24
  · rw [if_pos h]; exact ok0_String_length w h
  · rw [if_neg h]; exact sf_Ok.nil
theorem ok_String_charAt (w : UInt32) (i : Int32) : sf_Ok ({ cls := "java/lang/String", name := "charAt", desc := "(I)C" } : Jvm.MethodName) prog_16_method_56_code 2 (some .char) 5 [.float w, .int i] (jx_String_charAt w i) (fun r => some (.int r)) := by
  unfold jx_String_charAt
  by_cases h : w.toNat < 24 ∧ 0 ≤ i.toInt ∧ i.toInt < sf_strL.getD w.toNat 0
  · rw [if_pos h]; exact ok0_String_charAt w i h.1 h.2.1 h.2.2
  · rw [if_neg h]; exact sf_Ok.nil
