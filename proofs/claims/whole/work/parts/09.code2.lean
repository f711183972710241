/-! ===== the code: segments, control instructions, entries of methods 57 to 79 ===== -/
def sg_57_0 : List RI := [(.iload_n 0, 1, 0, 0, 0, 0), (.iload_n 1, 1, 0, 0, 0, 0)]
theorem sk_57_0 : segB 10 false prog_1_method_22_code 0 sg_57_0 = true := by decide +kernel
def sg_57_5 : List RI := [(.iload_n 0, 1, 0, 0, 0, 0), (.iload_n 2, 1, 0, 0, 0, 0)]
theorem sk_57_5 : segB 10 false prog_1_method_22_code 5 sg_57_5 = true := by decide +kernel
def sg_57_10 : List RI := [(.iconst 1, 1, 0, 0, 0, 1)]
theorem sk_57_10 : segB 10 false prog_1_method_22_code 10 sg_57_10 = true := by decide +kernel
def sg_57_14 : List RI := [(.iconst 0, 1, 0, 0, 0, 0)]
theorem sk_57_14 : segB 10 false prog_1_method_22_code 14 sg_57_14 = true := by decide +kernel
theorem ck_57_2 : decode prog_1_method_22_code 2 = .ok (.if_icmp .lt 12, 3) ∧ lnkB 10 false 2 (.if_icmp .lt 12, 3, 14, 0, 0, 0) = true := by decide +kernel
theorem ck_57_7 : decode prog_1_method_22_code 7 = .ok (.if_icmp .gt 7, 3) ∧ lnkB 10 false 7 (.if_icmp .gt 7, 3, 14, 0, 0, 0) = true := by decide +kernel
theorem ck_57_11 : decode prog_1_method_22_code 11 = .ok (.goto 4, 3) ∧ lnkB 10 false 11 (.goto 4, 3, 15, 0, 0, 0) = true := by decide +kernel
theorem ck_57_15 : decode prog_1_method_22_code 15 = .ok (.ireturn, 1) ∧ lnkB 10 false 15 (.ireturn, 1, 0, 0, 0, 0) = true := by decide +kernel
abbrev RU_57 (d : Nat) (cp : Nat × Nat) (Post : Option Value → Sto → Prop) : PP := Runs (Ex d) prog_1_method_22_code 10 false 3 (some .boolean) none cp Post
theorem en_57 {d : Nat} {As : List Value} {S : Sto} {mc ms : Nat} {Post : Option Value → Sto → Prop} (hc : cats As ≤ 3) (h : RU_57 d (mc, ms) Post 0 (lv_args 0 As) [] S 0 0) : Ex (d + 1) 57 As S mc ms Post := ⟨by decide, hc, h⟩
def sg_58_0 : List RI := [(.iload_n 1, 1, 0, 0, 0, 0), (.iconst 0, 1, 0, 0, 0, 0), (.iconst 4, 1, 0, 0, 0, 4)]
theorem sk_58_0 : segB 10 false prog_1_method_3_code 0 sg_58_0 = true := by decide +kernel
def sg_58_9 : List RI := [(.iload_n 3, 1, 0, 0, 0, 0), (.iconst 0, 1, 0, 0, 0, 0), (.ldc 114, 2, 0, 0, 0, 100000)]
theorem sk_58_9 : segB 10 false prog_1_method_3_code 9 sg_58_9 = true := by decide +kernel
def sg_58_19 : List RI := [(.iload_n 2, 1, 0, 0, 0, 0), (.iconst 0, 1, 0, 0, 0, 0), (.iload_n 3, 1, 0, 0, 0, 0)]
theorem sk_58_19 : segB 10 false prog_1_method_3_code 19 sg_58_19 = true := by decide +kernel
def sg_58_28 : List RI := [(.aload_n 0, 1, 0, 0, 0, 0), (.getfield 19, 3, 10, 1, 2, 0), (.getfield 115, 3, 3, 1, 0, 0), (.bipush 20, 2, 0, 0, 0, 20)]
theorem sk_58_28 : segB 10 false prog_1_method_3_code 28 sg_58_28 = true := by decide +kernel
def sg_58_40 : List RI := [(.iconst (-1), 1, 0, 0, 0, -1)]
theorem sk_58_40 : segB 10 false prog_1_method_3_code 40 sg_58_40 = true := by decide +kernel
def sg_58_42 : List RI := [(.aload_n 0, 1, 0, 0, 0, 0), (.getfield 19, 3, 10, 1, 2, 0), (.iload_n 1, 1, 0, 0, 0, 0), (.iload_n 2, 1, 0, 0, 0, 0), (.iload_n 3, 1, 0, 0, 0, 0)]
theorem sk_58_42 : segB 10 false prog_1_method_3_code 42 sg_58_42 = true := by decide +kernel
theorem ck_58_3 : decode prog_1_method_3_code 3 = .ok (.invokestatic 86, 3) ∧ lnkB 10 false 3 (.invokestatic 86, 3, 57, 0, 0, 0) = true := by decide +kernel
theorem ck_58_6 : decode prog_1_method_3_code 6 = .ok (.ifCond .eq 34, 3) ∧ lnkB 10 false 6 (.ifCond .eq 34, 3, 40, 0, 0, 0) = true := by decide +kernel
theorem ck_58_13 : decode prog_1_method_3_code 13 = .ok (.invokestatic 86, 3) ∧ lnkB 10 false 13 (.invokestatic 86, 3, 57, 0, 0, 0) = true := by decide +kernel
theorem ck_58_16 : decode prog_1_method_3_code 16 = .ok (.ifCond .eq 24, 3) ∧ lnkB 10 false 16 (.ifCond .eq 24, 3, 40, 0, 0, 0) = true := by decide +kernel
theorem ck_58_22 : decode prog_1_method_3_code 22 = .ok (.invokestatic 86, 3) ∧ lnkB 10 false 22 (.invokestatic 86, 3, 57, 0, 0, 0) = true := by decide +kernel
theorem ck_58_25 : decode prog_1_method_3_code 25 = .ok (.ifCond .eq 15, 3) ∧ lnkB 10 false 25 (.ifCond .eq 15, 3, 40, 0, 0, 0) = true := by decide +kernel
theorem ck_58_37 : decode prog_1_method_3_code 37 = .ok (.if_icmp .lt 5, 3) ∧ lnkB 10 false 37 (.if_icmp .lt 5, 3, 42, 0, 0, 0) = true := by decide +kernel
theorem ck_58_41 : decode prog_1_method_3_code 41 = .ok (.ireturn, 1) ∧ lnkB 10 false 41 (.ireturn, 1, 0, 0, 0, 0) = true := by decide +kernel
theorem ck_58_49 : decode prog_1_method_3_code 49 = .ok (.invokevirtual 118, 3) ∧ lnkB 10 false 49 (.invokevirtual 118, 3, 14, 0, 0, 0) = true := by decide +kernel
theorem ck_58_52 : decode prog_1_method_3_code 52 = .ok (.ireturn, 1) ∧ lnkB 10 false 52 (.ireturn, 1, 0, 0, 0, 0) = true := by decide +kernel
abbrev RU_58 (d : Nat) (cp : Nat × Nat) (Post : Option Value → Sto → Prop) : PP := Runs (Ex d) prog_1_method_3_code 10 false 4 (some .int) none cp Post
theorem en_58 {d : Nat} {As : List Value} {S : Sto} {mc ms : Nat} {Post : Option Value → Sto → Prop} (hc : cats As ≤ 4) (h : RU_58 d (mc, ms) Post 0 (lv_args 0 As) [] S 0 0) : Ex (d + 1) 58 As S mc ms Post := ⟨by decide, hc, h⟩
def sg_59_0 : List RI := [(.iload_n 1, 1, 0, 0, 0, 0), (.iconst 0, 1, 0, 0, 0, 0), (.iconst 5, 1, 0, 0, 0, 5)]
theorem sk_59_0 : segB 10 false prog_1_method_4_code 0 sg_59_0 = true := by decide +kernel
def sg_59_9 : List RI := [(.iload_n 2, 1, 0, 0, 0, 0), (.iconst 0, 1, 0, 0, 0, 0), (.iconst 4, 1, 0, 0, 0, 4)]
theorem sk_59_9 : segB 10 false prog_1_method_4_code 9 sg_59_9 = true := by decide +kernel
def sg_59_18 : List RI := [(.iload_n 3, 1, 0, 0, 0, 0), (.iconst 1, 1, 0, 0, 0, 1), (.bipush 9, 2, 0, 0, 0, 9)]
theorem sk_59_18 : segB 10 false prog_1_method_4_code 18 sg_59_18 = true := by decide +kernel
def sg_59_28 : List RI := [(.iload 4, 2, 0, 0, 0, 0), (.iconst 0, 1, 0, 0, 0, 0), (.sipush 999, 3, 0, 0, 0, 999)]
theorem sk_59_28 : segB 10 false prog_1_method_4_code 28 sg_59_28 = true := by decide +kernel
def sg_59_40 : List RI := [(.iconst 0, 1, 0, 0, 0, 0)]
theorem sk_59_40 : segB 10 false prog_1_method_4_code 40 sg_59_40 = true := by decide +kernel
def sg_59_42 : List RI := [(.aload_n 0, 1, 0, 0, 0, 0), (.getfield 26, 3, 10, 2, 2, 0), (.getfield 122, 3, 6, 0, 2, 0), (.iload_n 1, 1, 0, 0, 0, 0), (.iload_n 2, 1, 0, 0, 0, 0)]
theorem sk_59_42 : segB 10 false prog_1_method_4_code 42 sg_59_42 = true := by decide +kernel
def sg_59_52 : List RI := [(.aload_n 0, 1, 0, 0, 0, 0), (.getfield 26, 3, 10, 2, 2, 0), (.getfield 125, 3, 6, 1, 2, 0), (.iload_n 1, 1, 0, 0, 0, 0), (.iload_n 3, 1, 0, 0, 0, 0)]
theorem sk_59_52 : segB 10 false prog_1_method_4_code 52 sg_59_52 = true := by decide +kernel
def sg_59_62 : List RI := [(.aload_n 0, 1, 0, 0, 0, 0), (.getfield 26, 3, 10, 2, 2, 0), (.getfield 128, 3, 6, 2, 2, 0), (.iload_n 1, 1, 0, 0, 0, 0), (.iload 4, 2, 0, 0, 0, 0)]
theorem sk_59_62 : segB 10 false prog_1_method_4_code 62 sg_59_62 = true := by decide +kernel
def sg_59_73 : List RI := [(.iconst 0, 1, 0, 0, 0, 0), (.istore 5, 2, 0, 0, 0, 0)]
theorem sk_59_73 : segB 10 false prog_1_method_4_code 73 sg_59_73 = true := by decide +kernel
def sg_59_76 : List RI := [(.iload 5, 2, 0, 0, 0, 0), (.bipush 32, 2, 0, 0, 0, 32)]
theorem sk_59_76 : segB 10 false prog_1_method_4_code 76 sg_59_76 = true := by decide +kernel
def sg_59_83 : List RI := [(.aload_n 0, 1, 0, 0, 0, 0), (.getfield 26, 3, 10, 2, 2, 0), (.getfield 131, 3, 6, 8, 2, 0), (.iload_n 1, 1, 0, 0, 0, 0), (.bipush 32, 2, 0, 0, 0, 32), (.imul, 1, 0, 0, 0, 0), (.iload 5, 2, 0, 0, 0, 0), (.iadd, 1, 0, 0, 0, 0), (.iconst 0, 1, 0, 0, 0, 0)]
theorem sk_59_83 : segB 10 false prog_1_method_4_code 83 sg_59_83 = true := by decide +kernel
def sg_59_99 : List RI := [(.iinc 5 1, 3, 0, 0, 0, 1)]
theorem sk_59_99 : segB 10 false prog_1_method_4_code 99 sg_59_99 = true := by decide +kernel
def sg_59_105 : List RI := [(.iconst 1, 1, 0, 0, 0, 1)]
theorem sk_59_105 : segB 10 false prog_1_method_4_code 105 sg_59_105 = true := by decide +kernel
theorem ck_59_3 : decode prog_1_method_4_code 3 = .ok (.invokestatic 86, 3) ∧ lnkB 10 false 3 (.invokestatic 86, 3, 57, 0, 0, 0) = true := by decide +kernel
theorem ck_59_6 : decode prog_1_method_4_code 6 = .ok (.ifCond .eq 34, 3) ∧ lnkB 10 false 6 (.ifCond .eq 34, 3, 40, 0, 0, 0) = true := by decide +kernel
theorem ck_59_12 : decode prog_1_method_4_code 12 = .ok (.invokestatic 86, 3) ∧ lnkB 10 false 12 (.invokestatic 86, 3, 57, 0, 0, 0) = true := by decide +kernel
theorem ck_59_15 : decode prog_1_method_4_code 15 = .ok (.ifCond .eq 25, 3) ∧ lnkB 10 false 15 (.ifCond .eq 25, 3, 40, 0, 0, 0) = true := by decide +kernel
theorem ck_59_22 : decode prog_1_method_4_code 22 = .ok (.invokestatic 86, 3) ∧ lnkB 10 false 22 (.invokestatic 86, 3, 57, 0, 0, 0) = true := by decide +kernel
theorem ck_59_25 : decode prog_1_method_4_code 25 = .ok (.ifCond .eq 15, 3) ∧ lnkB 10 false 25 (.ifCond .eq 15, 3, 40, 0, 0, 0) = true := by decide +kernel
theorem ck_59_34 : decode prog_1_method_4_code 34 = .ok (.invokestatic 86, 3) ∧ lnkB 10 false 34 (.invokestatic 86, 3, 57, 0, 0, 0) = true := by decide +kernel
theorem ck_59_37 : decode prog_1_method_4_code 37 = .ok (.ifCond .ne 5, 3) ∧ lnkB 10 false 37 (.ifCond .ne 5, 3, 42, 0, 0, 0) = true := by decide +kernel
theorem ck_59_41 : decode prog_1_method_4_code 41 = .ok (.ireturn, 1) ∧ lnkB 10 false 41 (.ireturn, 1, 0, 0, 0, 0) = true := by decide +kernel
theorem ca_59_51 : decode prog_1_method_4_code 51 = .ok (.iastore, 1) ∧ lnkB 10 false 51 (.iastore, 1, 0, 0, 0, 0) = true := by decide +kernel
theorem ca_59_61 : decode prog_1_method_4_code 61 = .ok (.iastore, 1) ∧ lnkB 10 false 61 (.iastore, 1, 0, 0, 0, 0) = true := by decide +kernel
theorem ca_59_72 : decode prog_1_method_4_code 72 = .ok (.iastore, 1) ∧ lnkB 10 false 72 (.iastore, 1, 0, 0, 0, 0) = true := by decide +kernel
theorem ck_59_80 : decode prog_1_method_4_code 80 = .ok (.if_icmp .ge 25, 3) ∧ lnkB 10 false 80 (.if_icmp .ge 25, 3, 105, 0, 0, 0) = true := by decide +kernel
theorem ca_59_98 : decode prog_1_method_4_code 98 = .ok (.iastore, 1) ∧ lnkB 10 false 98 (.iastore, 1, 0, 0, 0, 0) = true := by decide +kernel
theorem ck_59_102 : decode prog_1_method_4_code 102 = .ok (.goto (-26), 3) ∧ lnkB 10 false 102 (.goto (-26), 3, 76, 0, 0, 0) = true := by decide +kernel
theorem ck_59_106 : decode prog_1_method_4_code 106 = .ok (.ireturn, 1) ∧ lnkB 10 false 106 (.ireturn, 1, 0, 0, 0, 0) = true := by decide +kernel
abbrev RU_59 (d : Nat) (cp : Nat × Nat) (Post : Option Value → Sto → Prop) : PP := Runs (Ex d) prog_1_method_4_code 10 false 6 (some .boolean) none cp Post
theorem en_59 {d : Nat} {As : List Value} {S : Sto} {mc ms : Nat} {Post : Option Value → Sto → Prop} (hc : cats As ≤ 6) (h : RU_59 d (mc, ms) Post 0 (lv_args 0 As) [] S 0 0) : Ex (d + 1) 59 As S mc ms Post := ⟨by decide, hc, h⟩
def sg_60_0 : List RI := [(.iload_n 1, 1, 0, 0, 0, 0), (.iconst 0, 1, 0, 0, 0, 0), (.iconst 5, 1, 0, 0, 0, 5)]
theorem sk_60_0 : segB 10 false prog_1_method_5_code 0 sg_60_0 = true := by decide +kernel
def sg_60_9 : List RI := [(.iload_n 2, 1, 0, 0, 0, 0), (.iconst 0, 1, 0, 0, 0, 0), (.iconst 3, 1, 0, 0, 0, 3)]
theorem sk_60_9 : segB 10 false prog_1_method_5_code 9 sg_60_9 = true := by decide +kernel
def sg_60_18 : List RI := [(.iload_n 3, 1, 0, 0, 0, 0), (.iconst 0, 1, 0, 0, 0, 0), (.iconst 2, 1, 0, 0, 0, 2)]
theorem sk_60_18 : segB 10 false prog_1_method_5_code 18 sg_60_18 = true := by decide +kernel
def sg_60_27 : List RI := [(.iload 4, 2, 0, 0, 0, 0), (.iconst 0, 1, 0, 0, 0, 0), (.iconst 5, 1, 0, 0, 0, 5)]
theorem sk_60_27 : segB 10 false prog_1_method_5_code 27 sg_60_27 = true := by decide +kernel
def sg_60_37 : List RI := [(.iload 5, 2, 0, 0, 0, 0), (.iconst 1, 1, 0, 0, 0, 1), (.iconst 5, 1, 0, 0, 0, 5)]
theorem sk_60_37 : segB 10 false prog_1_method_5_code 37 sg_60_37 = true := by decide +kernel
def sg_60_47 : List RI := [(.iconst 0, 1, 0, 0, 0, 0)]
theorem sk_60_47 : segB 10 false prog_1_method_5_code 47 sg_60_47 = true := by decide +kernel
def sg_60_49 : List RI := [(.iload_n 1, 1, 0, 0, 0, 0), (.iconst 4, 1, 0, 0, 0, 4), (.imul, 1, 0, 0, 0, 0), (.iload_n 2, 1, 0, 0, 0, 0), (.iadd, 1, 0, 0, 0, 0), (.istore 7, 2, 0, 0, 0, 0), (.aload_n 0, 1, 0, 0, 0, 0), (.getfield 26, 3, 10, 2, 2, 0), (.getfield 134, 3, 6, 3, 2, 0), (.iload 7, 2, 0, 0, 0, 0), (.iload_n 3, 1, 0, 0, 0, 0)]
theorem sk_60_49 : segB 10 false prog_1_method_5_code 49 sg_60_49 = true := by decide +kernel
def sg_60_67 : List RI := [(.aload_n 0, 1, 0, 0, 0, 0), (.getfield 26, 3, 10, 2, 2, 0), (.getfield 137, 3, 6, 4, 2, 0), (.iload 7, 2, 0, 0, 0, 0), (.iload 4, 2, 0, 0, 0, 0)]
theorem sk_60_67 : segB 10 false prog_1_method_5_code 67 sg_60_67 = true := by decide +kernel
def sg_60_79 : List RI := [(.aload_n 0, 1, 0, 0, 0, 0), (.getfield 26, 3, 10, 2, 2, 0), (.getfield 140, 3, 6, 5, 2, 0), (.iload 7, 2, 0, 0, 0, 0), (.iload 5, 2, 0, 0, 0, 0)]
theorem sk_60_79 : segB 10 false prog_1_method_5_code 79 sg_60_79 = true := by decide +kernel
def sg_60_91 : List RI := [(.aload_n 0, 1, 0, 0, 0, 0), (.getfield 26, 3, 10, 2, 2, 0), (.getfield 143, 3, 6, 6, 2, 0), (.iload 7, 2, 0, 0, 0, 0), (.iload 6, 2, 0, 0, 0, 0)]
theorem sk_60_91 : segB 10 false prog_1_method_5_code 91 sg_60_91 = true := by decide +kernel
def sg_60_103 : List RI := [(.iconst 1, 1, 0, 0, 0, 1)]
theorem sk_60_103 : segB 10 false prog_1_method_5_code 103 sg_60_103 = true := by decide +kernel
theorem ck_60_3 : decode prog_1_method_5_code 3 = .ok (.invokestatic 86, 3) ∧ lnkB 10 false 3 (.invokestatic 86, 3, 57, 0, 0, 0) = true := by decide +kernel
theorem ck_60_6 : decode prog_1_method_5_code 6 = .ok (.ifCond .eq 41, 3) ∧ lnkB 10 false 6 (.ifCond .eq 41, 3, 47, 0, 0, 0) = true := by decide +kernel
theorem ck_60_12 : decode prog_1_method_5_code 12 = .ok (.invokestatic 86, 3) ∧ lnkB 10 false 12 (.invokestatic 86, 3, 57, 0, 0, 0) = true := by decide +kernel
theorem ck_60_15 : decode prog_1_method_5_code 15 = .ok (.ifCond .eq 32, 3) ∧ lnkB 10 false 15 (.ifCond .eq 32, 3, 47, 0, 0, 0) = true := by decide +kernel
theorem ck_60_21 : decode prog_1_method_5_code 21 = .ok (.invokestatic 86, 3) ∧ lnkB 10 false 21 (.invokestatic 86, 3, 57, 0, 0, 0) = true := by decide +kernel
theorem ck_60_24 : decode prog_1_method_5_code 24 = .ok (.ifCond .eq 23, 3) ∧ lnkB 10 false 24 (.ifCond .eq 23, 3, 47, 0, 0, 0) = true := by decide +kernel
theorem ck_60_31 : decode prog_1_method_5_code 31 = .ok (.invokestatic 86, 3) ∧ lnkB 10 false 31 (.invokestatic 86, 3, 57, 0, 0, 0) = true := by decide +kernel
theorem ck_60_34 : decode prog_1_method_5_code 34 = .ok (.ifCond .eq 13, 3) ∧ lnkB 10 false 34 (.ifCond .eq 13, 3, 47, 0, 0, 0) = true := by decide +kernel
theorem ck_60_41 : decode prog_1_method_5_code 41 = .ok (.invokestatic 86, 3) ∧ lnkB 10 false 41 (.invokestatic 86, 3, 57, 0, 0, 0) = true := by decide +kernel
theorem ck_60_44 : decode prog_1_method_5_code 44 = .ok (.ifCond .ne 5, 3) ∧ lnkB 10 false 44 (.ifCond .ne 5, 3, 49, 0, 0, 0) = true := by decide +kernel
theorem ck_60_48 : decode prog_1_method_5_code 48 = .ok (.ireturn, 1) ∧ lnkB 10 false 48 (.ireturn, 1, 0, 0, 0, 0) = true := by decide +kernel
theorem ca_60_66 : decode prog_1_method_5_code 66 = .ok (.iastore, 1) ∧ lnkB 10 false 66 (.iastore, 1, 0, 0, 0, 0) = true := by decide +kernel
theorem ca_60_78 : decode prog_1_method_5_code 78 = .ok (.iastore, 1) ∧ lnkB 10 false 78 (.iastore, 1, 0, 0, 0, 0) = true := by decide +kernel
theorem ca_60_90 : decode prog_1_method_5_code 90 = .ok (.iastore, 1) ∧ lnkB 10 false 90 (.iastore, 1, 0, 0, 0, 0) = true := by decide +kernel
theorem ca_60_102 : decode prog_1_method_5_code 102 = .ok (.bastore, 1) ∧ lnkB 10 false 102 (.bastore, 1, 15, 0, 0, 0) = true := by decide +kernel
theorem ck_60_104 : decode prog_1_method_5_code 104 = .ok (.ireturn, 1) ∧ lnkB 10 false 104 (.ireturn, 1, 0, 0, 0, 0) = true := by decide +kernel
abbrev RU_60 (d : Nat) (cp : Nat × Nat) (Post : Option Value → Sto → Prop) : PP := Runs (Ex d) prog_1_method_5_code 10 false 8 (some .boolean) none cp Post
theorem en_60 {d : Nat} {As : List Value} {S : Sto} {mc ms : Nat} {Post : Option Value → Sto → Prop} (hc : cats As ≤ 8) (h : RU_60 d (mc, ms) Post 0 (lv_args 0 As) [] S 0 0) : Ex (d + 1) 60 As S mc ms Post := ⟨by decide, hc, h⟩
def sg_61_0 : List RI := [(.iload_n 1, 1, 0, 0, 0, 0), (.iload_n 2, 1, 0, 0, 0, 0)]
theorem sk_61_0 : segB 10 false prog_1_method_6_code 0 sg_61_0 = true := by decide +kernel
def sg_61_8 : List RI := [(.iconst 0, 1, 0, 0, 0, 0)]
theorem sk_61_8 : segB 10 false prog_1_method_6_code 8 sg_61_8 = true := by decide +kernel
def sg_61_10 : List RI := [(.iload_n 1, 1, 0, 0, 0, 0), (.bipush 32, 2, 0, 0, 0, 32), (.imul, 1, 0, 0, 0, 0), (.iload_n 2, 1, 0, 0, 0, 0), (.iadd, 1, 0, 0, 0, 0), (.istore 4, 2, 0, 0, 0, 0), (.aload_n 0, 1, 0, 0, 0, 0), (.getfield 26, 3, 10, 2, 2, 0), (.getfield 151, 3, 6, 7, 2, 0), (.iload 4, 2, 0, 0, 0, 0)]
theorem sk_61_10 : segB 10 false prog_1_method_6_code 10 sg_61_10 = true := by decide +kernel
def sg_61_28 : List RI := [(.iload_n 3, 1, 0, 0, 0, 0)]
theorem sk_61_28 : segB 10 false prog_1_method_6_code 28 sg_61_28 = true := by decide +kernel
def sg_61_32 : List RI := [(.iconst 0, 1, 0, 0, 0, 0)]
theorem sk_61_32 : segB 10 false prog_1_method_6_code 32 sg_61_32 = true := by decide +kernel
def sg_61_34 : List RI := [(.aload_n 0, 1, 0, 0, 0, 0), (.getfield 26, 3, 10, 2, 2, 0), (.getfield 151, 3, 6, 7, 2, 0), (.iload 4, 2, 0, 0, 0, 0), (.iload_n 3, 1, 0, 0, 0, 0)]
theorem sk_61_34 : segB 10 false prog_1_method_6_code 34 sg_61_34 = true := by decide +kernel
def sg_61_45 : List RI := [(.aload_n 0, 1, 0, 0, 0, 0), (.getfield 26, 3, 10, 2, 2, 0), (.getfield 131, 3, 6, 8, 2, 0), (.iload 4, 2, 0, 0, 0, 0), (.iconst 0, 1, 0, 0, 0, 0)]
theorem sk_61_45 : segB 10 false prog_1_method_6_code 45 sg_61_45 = true := by decide +kernel
def sg_61_56 : List RI := [(.iconst 1, 1, 0, 0, 0, 1)]
theorem sk_61_56 : segB 10 false prog_1_method_6_code 56 sg_61_56 = true := by decide +kernel
theorem ck_61_2 : decode prog_1_method_6_code 2 = .ok (.invokestatic 147, 3) ∧ lnkB 10 false 2 (.invokestatic 147, 3, 62, 0, 0, 0) = true := by decide +kernel
theorem ck_61_5 : decode prog_1_method_6_code 5 = .ok (.ifCond .ne 5, 3) ∧ lnkB 10 false 5 (.ifCond .ne 5, 3, 10, 0, 0, 0) = true := by decide +kernel
theorem ck_61_9 : decode prog_1_method_6_code 9 = .ok (.ireturn, 1) ∧ lnkB 10 false 9 (.ireturn, 1, 0, 0, 0, 0) = true := by decide +kernel
theorem ca_61_27 : decode prog_1_method_6_code 27 = .ok (.baload, 1) ∧ lnkB 10 false 27 (.baload, 1, 15, 0, 0, 0) = true := by decide +kernel
theorem ck_61_29 : decode prog_1_method_6_code 29 = .ok (.if_icmp .ne 5, 3) ∧ lnkB 10 false 29 (.if_icmp .ne 5, 3, 34, 0, 0, 0) = true := by decide +kernel
theorem ck_61_33 : decode prog_1_method_6_code 33 = .ok (.ireturn, 1) ∧ lnkB 10 false 33 (.ireturn, 1, 0, 0, 0, 0) = true := by decide +kernel
theorem ca_61_44 : decode prog_1_method_6_code 44 = .ok (.bastore, 1) ∧ lnkB 10 false 44 (.bastore, 1, 15, 0, 0, 0) = true := by decide +kernel
theorem ca_61_55 : decode prog_1_method_6_code 55 = .ok (.iastore, 1) ∧ lnkB 10 false 55 (.iastore, 1, 0, 0, 0, 0) = true := by decide +kernel
theorem ck_61_57 : decode prog_1_method_6_code 57 = .ok (.ireturn, 1) ∧ lnkB 10 false 57 (.ireturn, 1, 0, 0, 0, 0) = true := by decide +kernel
abbrev RU_61 (d : Nat) (cp : Nat × Nat) (Post : Option Value → Sto → Prop) : PP := Runs (Ex d) prog_1_method_6_code 10 false 5 (some .boolean) none cp Post
theorem en_61 {d : Nat} {As : List Value} {S : Sto} {mc ms : Nat} {Post : Option Value → Sto → Prop} (hc : cats As ≤ 5) (h : RU_61 d (mc, ms) Post 0 (lv_args 0 As) [] S 0 0) : Ex (d + 1) 61 As S mc ms Post := ⟨by decide, hc, h⟩
def sg_62_0 : List RI := [(.iload_n 0, 1, 0, 0, 0, 0), (.iconst 0, 1, 0, 0, 0, 0), (.iconst 5, 1, 0, 0, 0, 5)]
theorem sk_62_0 : segB 10 false prog_1_method_23_code 0 sg_62_0 = true := by decide +kernel
def sg_62_9 : List RI := [(.iload_n 1, 1, 0, 0, 0, 0), (.iconst 0, 1, 0, 0, 0, 0), (.bipush 31, 2, 0, 0, 0, 31)]
theorem sk_62_9 : segB 10 false prog_1_method_23_code 9 sg_62_9 = true := by decide +kernel
def sg_62_19 : List RI := [(.iconst 1, 1, 0, 0, 0, 1)]
theorem sk_62_19 : segB 10 false prog_1_method_23_code 19 sg_62_19 = true := by decide +kernel
def sg_62_23 : List RI := [(.iconst 0, 1, 0, 0, 0, 0)]
theorem sk_62_23 : segB 10 false prog_1_method_23_code 23 sg_62_23 = true := by decide +kernel
theorem ck_62_3 : decode prog_1_method_23_code 3 = .ok (.invokestatic 86, 3) ∧ lnkB 10 false 3 (.invokestatic 86, 3, 57, 0, 0, 0) = true := by decide +kernel
theorem ck_62_6 : decode prog_1_method_23_code 6 = .ok (.ifCond .eq 17, 3) ∧ lnkB 10 false 6 (.ifCond .eq 17, 3, 23, 0, 0, 0) = true := by decide +kernel
theorem ck_62_13 : decode prog_1_method_23_code 13 = .ok (.invokestatic 86, 3) ∧ lnkB 10 false 13 (.invokestatic 86, 3, 57, 0, 0, 0) = true := by decide +kernel
theorem ck_62_16 : decode prog_1_method_23_code 16 = .ok (.ifCond .eq 7, 3) ∧ lnkB 10 false 16 (.ifCond .eq 7, 3, 23, 0, 0, 0) = true := by decide +kernel
theorem ck_62_20 : decode prog_1_method_23_code 20 = .ok (.goto 4, 3) ∧ lnkB 10 false 20 (.goto 4, 3, 24, 0, 0, 0) = true := by decide +kernel
theorem ck_62_24 : decode prog_1_method_23_code 24 = .ok (.ireturn, 1) ∧ lnkB 10 false 24 (.ireturn, 1, 0, 0, 0, 0) = true := by decide +kernel
abbrev RU_62 (d : Nat) (cp : Nat × Nat) (Post : Option Value → Sto → Prop) : PP := Runs (Ex d) prog_1_method_23_code 10 false 2 (some .boolean) none cp Post
theorem en_62 {d : Nat} {As : List Value} {S : Sto} {mc ms : Nat} {Post : Option Value → Sto → Prop} (hc : cats As ≤ 2) (h : RU_62 d (mc, ms) Post 0 (lv_args 0 As) [] S 0 0) : Ex (d + 1) 62 As S mc ms Post := ⟨by decide, hc, h⟩
def sg_63_0 : List RI := [(.iload_n 1, 1, 0, 0, 0, 0), (.iload_n 2, 1, 0, 0, 0, 0), (.iload_n 3, 1, 0, 0, 0, 0)]
theorem sk_63_0 : segB 10 false prog_1_method_7_code 0 sg_63_0 = true := by decide +kernel
def sg_63_9 : List RI := [(.iload 4, 2, 0, 0, 0, 0), (.ldc 157, 2, 0, 0, 0, -99999), (.ldc 158, 2, 0, 0, 0, 99999)]
theorem sk_63_9 : segB 10 false prog_1_method_7_code 9 sg_63_9 = true := by decide +kernel
def sg_63_21 : List RI := [(.iconst 0, 1, 0, 0, 0, 0)]
theorem sk_63_21 : segB 10 false prog_1_method_7_code 21 sg_63_21 = true := by decide +kernel
def sg_63_23 : List RI := [(.iload_n 1, 1, 0, 0, 0, 0), (.bipush 32, 2, 0, 0, 0, 32), (.imul, 1, 0, 0, 0, 0), (.iload_n 2, 1, 0, 0, 0, 0), (.iadd, 1, 0, 0, 0, 0), (.istore 5, 2, 0, 0, 0, 0), (.aload_n 0, 1, 0, 0, 0, 0), (.getfield 26, 3, 10, 2, 2, 0), (.getfield 159, 3, 6, 9, 2, 0), (.iload 5, 2, 0, 0, 0, 0), (.iconst 4, 1, 0, 0, 0, 4), (.imul, 1, 0, 0, 0, 0), (.iload_n 3, 1, 0, 0, 0, 0), (.iadd, 1, 0, 0, 0, 0), (.iload 4, 2, 0, 0, 0, 0)]
theorem sk_63_23 : segB 10 false prog_1_method_7_code 23 sg_63_23 = true := by decide +kernel
def sg_63_47 : List RI := [(.aload_n 0, 1, 0, 0, 0, 0), (.getfield 26, 3, 10, 2, 2, 0), (.getfield 131, 3, 6, 8, 2, 0), (.iload 5, 2, 0, 0, 0, 0), (.iconst 0, 1, 0, 0, 0, 0)]
theorem sk_63_47 : segB 10 false prog_1_method_7_code 47 sg_63_47 = true := by decide +kernel
def sg_63_58 : List RI := [(.iconst 1, 1, 0, 0, 0, 1)]
theorem sk_63_58 : segB 10 false prog_1_method_7_code 58 sg_63_58 = true := by decide +kernel
theorem ck_63_3 : decode prog_1_method_7_code 3 = .ok (.invokestatic 154, 3) ∧ lnkB 10 false 3 (.invokestatic 154, 3, 64, 0, 0, 0) = true := by decide +kernel
theorem ck_63_6 : decode prog_1_method_7_code 6 = .ok (.ifCond .eq 15, 3) ∧ lnkB 10 false 6 (.ifCond .eq 15, 3, 21, 0, 0, 0) = true := by decide +kernel
theorem ck_63_15 : decode prog_1_method_7_code 15 = .ok (.invokestatic 86, 3) ∧ lnkB 10 false 15 (.invokestatic 86, 3, 57, 0, 0, 0) = true := by decide +kernel
theorem ck_63_18 : decode prog_1_method_7_code 18 = .ok (.ifCond .ne 5, 3) ∧ lnkB 10 false 18 (.ifCond .ne 5, 3, 23, 0, 0, 0) = true := by decide +kernel
theorem ck_63_22 : decode prog_1_method_7_code 22 = .ok (.ireturn, 1) ∧ lnkB 10 false 22 (.ireturn, 1, 0, 0, 0, 0) = true := by decide +kernel
theorem ca_63_46 : decode prog_1_method_7_code 46 = .ok (.iastore, 1) ∧ lnkB 10 false 46 (.iastore, 1, 0, 0, 0, 0) = true := by decide +kernel
theorem ca_63_57 : decode prog_1_method_7_code 57 = .ok (.iastore, 1) ∧ lnkB 10 false 57 (.iastore, 1, 0, 0, 0, 0) = true := by decide +kernel
theorem ck_63_59 : decode prog_1_method_7_code 59 = .ok (.ireturn, 1) ∧ lnkB 10 false 59 (.ireturn, 1, 0, 0, 0, 0) = true := by decide +kernel
abbrev RU_63 (d : Nat) (cp : Nat × Nat) (Post : Option Value → Sto → Prop) : PP := Runs (Ex d) prog_1_method_7_code 10 false 6 (some .boolean) none cp Post
theorem en_63 {d : Nat} {As : List Value} {S : Sto} {mc ms : Nat} {Post : Option Value → Sto → Prop} (hc : cats As ≤ 6) (h : RU_63 d (mc, ms) Post 0 (lv_args 0 As) [] S 0 0) : Ex (d + 1) 63 As S mc ms Post := ⟨by decide, hc, h⟩
def sg_64_0 : List RI := [(.iload_n 0, 1, 0, 0, 0, 0), (.iload_n 1, 1, 0, 0, 0, 0)]
theorem sk_64_0 : segB 10 false prog_1_method_24_code 0 sg_64_0 = true := by decide +kernel
def sg_64_8 : List RI := [(.iload_n 2, 1, 0, 0, 0, 0), (.iconst 0, 1, 0, 0, 0, 0), (.iconst 3, 1, 0, 0, 0, 3)]
theorem sk_64_8 : segB 10 false prog_1_method_24_code 8 sg_64_8 = true := by decide +kernel
def sg_64_17 : List RI := [(.iconst 1, 1, 0, 0, 0, 1)]
theorem sk_64_17 : segB 10 false prog_1_method_24_code 17 sg_64_17 = true := by decide +kernel
def sg_64_21 : List RI := [(.iconst 0, 1, 0, 0, 0, 0)]
theorem sk_64_21 : segB 10 false prog_1_method_24_code 21 sg_64_21 = true := by decide +kernel
theorem ck_64_2 : decode prog_1_method_24_code 2 = .ok (.invokestatic 147, 3) ∧ lnkB 10 false 2 (.invokestatic 147, 3, 62, 0, 0, 0) = true := by decide +kernel
theorem ck_64_5 : decode prog_1_method_24_code 5 = .ok (.ifCond .eq 16, 3) ∧ lnkB 10 false 5 (.ifCond .eq 16, 3, 21, 0, 0, 0) = true := by decide +kernel
theorem ck_64_11 : decode prog_1_method_24_code 11 = .ok (.invokestatic 86, 3) ∧ lnkB 10 false 11 (.invokestatic 86, 3, 57, 0, 0, 0) = true := by decide +kernel
theorem ck_64_14 : decode prog_1_method_24_code 14 = .ok (.ifCond .eq 7, 3) ∧ lnkB 10 false 14 (.ifCond .eq 7, 3, 21, 0, 0, 0) = true := by decide +kernel
theorem ck_64_18 : decode prog_1_method_24_code 18 = .ok (.goto 4, 3) ∧ lnkB 10 false 18 (.goto 4, 3, 22, 0, 0, 0) = true := by decide +kernel
theorem ck_64_22 : decode prog_1_method_24_code 22 = .ok (.ireturn, 1) ∧ lnkB 10 false 22 (.ireturn, 1, 0, 0, 0, 0) = true := by decide +kernel
abbrev RU_64 (d : Nat) (cp : Nat × Nat) (Post : Option Value → Sto → Prop) : PP := Runs (Ex d) prog_1_method_24_code 10 false 3 (some .boolean) none cp Post
theorem en_64 {d : Nat} {As : List Value} {S : Sto} {mc ms : Nat} {Post : Option Value → Sto → Prop} (hc : cats As ≤ 3) (h : RU_64 d (mc, ms) Post 0 (lv_args 0 As) [] S 0 0) : Ex (d + 1) 64 As S mc ms Post := ⟨by decide, hc, h⟩
def sg_65_0 : List RI := [(.iload_n 1, 1, 0, 0, 0, 0), (.iload_n 2, 1, 0, 0, 0, 0), (.iload_n 3, 1, 0, 0, 0, 0)]
theorem sk_65_0 : segB 10 false prog_1_method_8_code 0 sg_65_0 = true := by decide +kernel
def sg_65_9 : List RI := [(.iload 4, 2, 0, 0, 0, 0), (.iconst (-1), 1, 0, 0, 0, -1), (.bipush 31, 2, 0, 0, 0, 31)]
theorem sk_65_9 : segB 10 false prog_1_method_8_code 9 sg_65_9 = true := by decide +kernel
def sg_65_20 : List RI := [(.iconst 0, 1, 0, 0, 0, 0)]
theorem sk_65_20 : segB 10 false prog_1_method_8_code 20 sg_65_20 = true := by decide +kernel
def sg_65_22 : List RI := [(.iload_n 1, 1, 0, 0, 0, 0), (.bipush 32, 2, 0, 0, 0, 32), (.imul, 1, 0, 0, 0, 0), (.iload_n 2, 1, 0, 0, 0, 0), (.iadd, 1, 0, 0, 0, 0), (.istore 5, 2, 0, 0, 0, 0), (.aload_n 0, 1, 0, 0, 0, 0), (.getfield 26, 3, 10, 2, 2, 0), (.getfield 162, 3, 6, 10, 2, 0), (.iload 5, 2, 0, 0, 0, 0), (.iconst 4, 1, 0, 0, 0, 4), (.imul, 1, 0, 0, 0, 0), (.iload_n 3, 1, 0, 0, 0, 0), (.iadd, 1, 0, 0, 0, 0), (.iload 4, 2, 0, 0, 0, 0)]
theorem sk_65_22 : segB 10 false prog_1_method_8_code 22 sg_65_22 = true := by decide +kernel
def sg_65_46 : List RI := [(.aload_n 0, 1, 0, 0, 0, 0), (.getfield 26, 3, 10, 2, 2, 0), (.getfield 131, 3, 6, 8, 2, 0), (.iload 5, 2, 0, 0, 0, 0), (.iconst 0, 1, 0, 0, 0, 0)]
theorem sk_65_46 : segB 10 false prog_1_method_8_code 46 sg_65_46 = true := by decide +kernel
def sg_65_57 : List RI := [(.iconst 1, 1, 0, 0, 0, 1)]
theorem sk_65_57 : segB 10 false prog_1_method_8_code 57 sg_65_57 = true := by decide +kernel
theorem ck_65_3 : decode prog_1_method_8_code 3 = .ok (.invokestatic 154, 3) ∧ lnkB 10 false 3 (.invokestatic 154, 3, 64, 0, 0, 0) = true := by decide +kernel
theorem ck_65_6 : decode prog_1_method_8_code 6 = .ok (.ifCond .eq 14, 3) ∧ lnkB 10 false 6 (.ifCond .eq 14, 3, 20, 0, 0, 0) = true := by decide +kernel
theorem ck_65_14 : decode prog_1_method_8_code 14 = .ok (.invokestatic 86, 3) ∧ lnkB 10 false 14 (.invokestatic 86, 3, 57, 0, 0, 0) = true := by decide +kernel
theorem ck_65_17 : decode prog_1_method_8_code 17 = .ok (.ifCond .ne 5, 3) ∧ lnkB 10 false 17 (.ifCond .ne 5, 3, 22, 0, 0, 0) = true := by decide +kernel
theorem ck_65_21 : decode prog_1_method_8_code 21 = .ok (.ireturn, 1) ∧ lnkB 10 false 21 (.ireturn, 1, 0, 0, 0, 0) = true := by decide +kernel
theorem ca_65_45 : decode prog_1_method_8_code 45 = .ok (.iastore, 1) ∧ lnkB 10 false 45 (.iastore, 1, 0, 0, 0, 0) = true := by decide +kernel
theorem ca_65_56 : decode prog_1_method_8_code 56 = .ok (.iastore, 1) ∧ lnkB 10 false 56 (.iastore, 1, 0, 0, 0, 0) = true := by decide +kernel
theorem ck_65_58 : decode prog_1_method_8_code 58 = .ok (.ireturn, 1) ∧ lnkB 10 false 58 (.ireturn, 1, 0, 0, 0, 0) = true := by decide +kernel
abbrev RU_65 (d : Nat) (cp : Nat × Nat) (Post : Option Value → Sto → Prop) : PP := Runs (Ex d) prog_1_method_8_code 10 false 6 (some .boolean) none cp Post
theorem en_65 {d : Nat} {As : List Value} {S : Sto} {mc ms : Nat} {Post : Option Value → Sto → Prop} (hc : cats As ≤ 6) (h : RU_65 d (mc, ms) Post 0 (lv_args 0 As) [] S 0 0) : Ex (d + 1) 65 As S mc ms Post := ⟨by decide, hc, h⟩
def sg_66_0 : List RI := [(.iload_n 1, 1, 0, 0, 0, 0), (.iload_n 2, 1, 0, 0, 0, 0), (.iload_n 3, 1, 0, 0, 0, 0)]
theorem sk_66_0 : segB 10 false prog_1_method_9_code 0 sg_66_0 = true := by decide +kernel
def sg_66_9 : List RI := [(.iload 4, 2, 0, 0, 0, 0), (.iconst 0, 1, 0, 0, 0, 0), (.iconst 5, 1, 0, 0, 0, 5)]
theorem sk_66_9 : segB 10 false prog_1_method_9_code 9 sg_66_9 = true := by decide +kernel
def sg_66_19 : List RI := [(.iconst 0, 1, 0, 0, 0, 0)]
theorem sk_66_19 : segB 10 false prog_1_method_9_code 19 sg_66_19 = true := by decide +kernel
def sg_66_21 : List RI := [(.iload_n 1, 1, 0, 0, 0, 0), (.bipush 32, 2, 0, 0, 0, 32), (.imul, 1, 0, 0, 0, 0), (.iload_n 2, 1, 0, 0, 0, 0), (.iadd, 1, 0, 0, 0, 0), (.istore 6, 2, 0, 0, 0, 0), (.aload_n 0, 1, 0, 0, 0, 0), (.getfield 26, 3, 10, 2, 2, 0), (.getfield 165, 3, 6, 11, 2, 0), (.iload 6, 2, 0, 0, 0, 0), (.iconst 4, 1, 0, 0, 0, 4), (.imul, 1, 0, 0, 0, 0), (.iload_n 3, 1, 0, 0, 0, 0), (.iadd, 1, 0, 0, 0, 0), (.iload 4, 2, 0, 0, 0, 0)]
theorem sk_66_21 : segB 10 false prog_1_method_9_code 21 sg_66_21 = true := by decide +kernel
def sg_66_45 : List RI := [(.aload_n 0, 1, 0, 0, 0, 0), (.getfield 26, 3, 10, 2, 2, 0), (.getfield 168, 3, 6, 12, 2, 0), (.iload 6, 2, 0, 0, 0, 0), (.iconst 4, 1, 0, 0, 0, 4), (.imul, 1, 0, 0, 0, 0), (.iload_n 3, 1, 0, 0, 0, 0), (.iadd, 1, 0, 0, 0, 0), (.iload 5, 2, 0, 0, 0, 0)]
theorem sk_66_45 : segB 10 false prog_1_method_9_code 45 sg_66_45 = true := by decide +kernel
def sg_66_61 : List RI := [(.aload_n 0, 1, 0, 0, 0, 0), (.getfield 26, 3, 10, 2, 2, 0), (.getfield 131, 3, 6, 8, 2, 0), (.iload 6, 2, 0, 0, 0, 0), (.iconst 0, 1, 0, 0, 0, 0)]
theorem sk_66_61 : segB 10 false prog_1_method_9_code 61 sg_66_61 = true := by decide +kernel
def sg_66_72 : List RI := [(.iconst 1, 1, 0, 0, 0, 1)]
theorem sk_66_72 : segB 10 false prog_1_method_9_code 72 sg_66_72 = true := by decide +kernel
theorem ck_66_3 : decode prog_1_method_9_code 3 = .ok (.invokestatic 154, 3) ∧ lnkB 10 false 3 (.invokestatic 154, 3, 64, 0, 0, 0) = true := by decide +kernel
theorem ck_66_6 : decode prog_1_method_9_code 6 = .ok (.ifCond .eq 13, 3) ∧ lnkB 10 false 6 (.ifCond .eq 13, 3, 19, 0, 0, 0) = true := by decide +kernel
theorem ck_66_13 : decode prog_1_method_9_code 13 = .ok (.invokestatic 86, 3) ∧ lnkB 10 false 13 (.invokestatic 86, 3, 57, 0, 0, 0) = true := by decide +kernel
theorem ck_66_16 : decode prog_1_method_9_code 16 = .ok (.ifCond .ne 5, 3) ∧ lnkB 10 false 16 (.ifCond .ne 5, 3, 21, 0, 0, 0) = true := by decide +kernel
theorem ck_66_20 : decode prog_1_method_9_code 20 = .ok (.ireturn, 1) ∧ lnkB 10 false 20 (.ireturn, 1, 0, 0, 0, 0) = true := by decide +kernel
theorem ca_66_44 : decode prog_1_method_9_code 44 = .ok (.iastore, 1) ∧ lnkB 10 false 44 (.iastore, 1, 0, 0, 0, 0) = true := by decide +kernel
theorem ca_66_60 : decode prog_1_method_9_code 60 = .ok (.iastore, 1) ∧ lnkB 10 false 60 (.iastore, 1, 0, 0, 0, 0) = true := by decide +kernel
theorem ca_66_71 : decode prog_1_method_9_code 71 = .ok (.iastore, 1) ∧ lnkB 10 false 71 (.iastore, 1, 0, 0, 0, 0) = true := by decide +kernel
theorem ck_66_73 : decode prog_1_method_9_code 73 = .ok (.ireturn, 1) ∧ lnkB 10 false 73 (.ireturn, 1, 0, 0, 0, 0) = true := by decide +kernel
abbrev RU_66 (d : Nat) (cp : Nat × Nat) (Post : Option Value → Sto → Prop) : PP := Runs (Ex d) prog_1_method_9_code 10 false 7 (some .boolean) none cp Post
theorem en_66 {d : Nat} {As : List Value} {S : Sto} {mc ms : Nat} {Post : Option Value → Sto → Prop} (hc : cats As ≤ 7) (h : RU_66 d (mc, ms) Post 0 (lv_args 0 As) [] S 0 0) : Ex (d + 1) 66 As S mc ms Post := ⟨by decide, hc, h⟩
def sg_67_0 : List RI := [(.iload_n 1, 1, 0, 0, 0, 0), (.iconst 0, 1, 0, 0, 0, 0), (.iconst 3, 1, 0, 0, 0, 3)]
theorem sk_67_0 : segB 10 false prog_1_method_10_code 0 sg_67_0 = true := by decide +kernel
def sg_67_9 : List RI := [(.iload_n 2, 1, 0, 0, 0, 0), (.iconst 0, 1, 0, 0, 0, 0), (.bipush 63, 2, 0, 0, 0, 63)]
theorem sk_67_9 : segB 10 false prog_1_method_10_code 9 sg_67_9 = true := by decide +kernel
def sg_67_19 : List RI := [(.iload_n 3, 1, 0, 0, 0, 0), (.iconst 1, 1, 0, 0, 0, 1), (.sipush 500, 3, 0, 0, 0, 500)]
theorem sk_67_19 : segB 10 false prog_1_method_10_code 19 sg_67_19 = true := by decide +kernel
def sg_67_30 : List RI := [(.iload 4, 2, 0, 0, 0, 0), (.iconst 0, 1, 0, 0, 0, 0), (.bipush 50, 2, 0, 0, 0, 50)]
theorem sk_67_30 : segB 10 false prog_1_method_10_code 30 sg_67_30 = true := by decide +kernel
def sg_67_41 : List RI := [(.iconst 0, 1, 0, 0, 0, 0)]
theorem sk_67_41 : segB 10 false prog_1_method_10_code 41 sg_67_41 = true := by decide +kernel
def sg_67_43 : List RI := [(.aload_n 0, 1, 0, 0, 0, 0), (.getfield 12, 3, 10, 0, 2, 0), (.getfield 171, 3, 1, 0, 2, 0), (.iload_n 1, 1, 0, 0, 0, 0), (.iload_n 2, 1, 0, 0, 0, 0)]
theorem sk_67_43 : segB 10 false prog_1_method_10_code 43 sg_67_43 = true := by decide +kernel
def sg_67_53 : List RI := [(.aload_n 0, 1, 0, 0, 0, 0), (.getfield 12, 3, 10, 0, 2, 0), (.getfield 174, 3, 1, 1, 2, 0), (.iload_n 1, 1, 0, 0, 0, 0), (.iload_n 3, 1, 0, 0, 0, 0)]
theorem sk_67_53 : segB 10 false prog_1_method_10_code 53 sg_67_53 = true := by decide +kernel
def sg_67_63 : List RI := [(.aload_n 0, 1, 0, 0, 0, 0), (.getfield 12, 3, 10, 0, 2, 0), (.getfield 177, 3, 1, 2, 2, 0), (.iload_n 1, 1, 0, 0, 0, 0), (.iload 4, 2, 0, 0, 0, 0)]
theorem sk_67_63 : segB 10 false prog_1_method_10_code 63 sg_67_63 = true := by decide +kernel
def sg_67_74 : List RI := [(.aload_n 0, 1, 0, 0, 0, 0), (.getfield 12, 3, 10, 0, 2, 0), (.getfield 180, 3, 1, 3, 2, 0), (.iload_n 1, 1, 0, 0, 0, 0), (.aload_n 0, 1, 0, 0, 0, 0), (.getfield 12, 3, 10, 0, 2, 0), (.getfield 180, 3, 1, 3, 2, 0), (.iload_n 1, 1, 0, 0, 0, 0)]
theorem sk_67_74 : segB 10 false prog_1_method_10_code 74 sg_67_74 = true := by decide +kernel
def sg_67_91 : List RI := [(.iload_n 3, 1, 0, 0, 0, 0), (.invokestatic 183, 3, 0, 2, 0, 0)]
theorem sk_67_91 : segB 10 false prog_1_method_10_code 91 sg_67_91 = true := by decide +kernel
def sg_67_96 : List RI := [(.iconst 1, 1, 0, 0, 0, 1)]
theorem sk_67_96 : segB 10 false prog_1_method_10_code 96 sg_67_96 = true := by decide +kernel
theorem ck_67_3 : decode prog_1_method_10_code 3 = .ok (.invokestatic 86, 3) ∧ lnkB 10 false 3 (.invokestatic 86, 3, 57, 0, 0, 0) = true := by decide +kernel
theorem ck_67_6 : decode prog_1_method_10_code 6 = .ok (.ifCond .eq 35, 3) ∧ lnkB 10 false 6 (.ifCond .eq 35, 3, 41, 0, 0, 0) = true := by decide +kernel
theorem ck_67_13 : decode prog_1_method_10_code 13 = .ok (.invokestatic 86, 3) ∧ lnkB 10 false 13 (.invokestatic 86, 3, 57, 0, 0, 0) = true := by decide +kernel
theorem ck_67_16 : decode prog_1_method_10_code 16 = .ok (.ifCond .eq 25, 3) ∧ lnkB 10 false 16 (.ifCond .eq 25, 3, 41, 0, 0, 0) = true := by decide +kernel
theorem ck_67_24 : decode prog_1_method_10_code 24 = .ok (.invokestatic 86, 3) ∧ lnkB 10 false 24 (.invokestatic 86, 3, 57, 0, 0, 0) = true := by decide +kernel
theorem ck_67_27 : decode prog_1_method_10_code 27 = .ok (.ifCond .eq 14, 3) ∧ lnkB 10 false 27 (.ifCond .eq 14, 3, 41, 0, 0, 0) = true := by decide +kernel
theorem ck_67_35 : decode prog_1_method_10_code 35 = .ok (.invokestatic 86, 3) ∧ lnkB 10 false 35 (.invokestatic 86, 3, 57, 0, 0, 0) = true := by decide +kernel
theorem ck_67_38 : decode prog_1_method_10_code 38 = .ok (.ifCond .ne 5, 3) ∧ lnkB 10 false 38 (.ifCond .ne 5, 3, 43, 0, 0, 0) = true := by decide +kernel
theorem ck_67_42 : decode prog_1_method_10_code 42 = .ok (.ireturn, 1) ∧ lnkB 10 false 42 (.ireturn, 1, 0, 0, 0, 0) = true := by decide +kernel
theorem ca_67_52 : decode prog_1_method_10_code 52 = .ok (.iastore, 1) ∧ lnkB 10 false 52 (.iastore, 1, 0, 0, 0, 0) = true := by decide +kernel
theorem ca_67_62 : decode prog_1_method_10_code 62 = .ok (.iastore, 1) ∧ lnkB 10 false 62 (.iastore, 1, 0, 0, 0, 0) = true := by decide +kernel
theorem ca_67_73 : decode prog_1_method_10_code 73 = .ok (.iastore, 1) ∧ lnkB 10 false 73 (.iastore, 1, 0, 0, 0, 0) = true := by decide +kernel
theorem ca_67_90 : decode prog_1_method_10_code 90 = .ok (.iaload, 1) ∧ lnkB 10 false 90 (.iaload, 1, 0, 0, 0, 0) = true := by decide +kernel
theorem ca_67_95 : decode prog_1_method_10_code 95 = .ok (.iastore, 1) ∧ lnkB 10 false 95 (.iastore, 1, 0, 0, 0, 0) = true := by decide +kernel
theorem ck_67_97 : decode prog_1_method_10_code 97 = .ok (.ireturn, 1) ∧ lnkB 10 false 97 (.ireturn, 1, 0, 0, 0, 0) = true := by decide +kernel
abbrev RU_67 (d : Nat) (cp : Nat × Nat) (Post : Option Value → Sto → Prop) : PP := Runs (Ex d) prog_1_method_10_code 10 false 5 (some .boolean) none cp Post
theorem en_67 {d : Nat} {As : List Value} {S : Sto} {mc ms : Nat} {Post : Option Value → Sto → Prop} (hc : cats As ≤ 5) (h : RU_67 d (mc, ms) Post 0 (lv_args 0 As) [] S 0 0) : Ex (d + 1) 67 As S mc ms Post := ⟨by decide, hc, h⟩
def sg_68_0 : List RI := [(.iload_n 1, 1, 0, 0, 0, 0), (.iconst 1, 1, 0, 0, 0, 1), (.sipush 1000, 3, 0, 0, 0, 1000)]
theorem sk_68_0 : segB 10 false prog_1_method_11_code 0 sg_68_0 = true := by decide +kernel
def sg_68_11 : List RI := [(.aload_n 0, 1, 0, 0, 0, 0), (.getfield 12, 3, 10, 0, 2, 0), (.getfield 189, 3, 1, 4, 0, 0), (.iload_n 1, 1, 0, 0, 0, 0), (.iadd, 1, 0, 0, 0, 0), (.ldc 114, 2, 0, 0, 0, 100000)]
theorem sk_68_11 : segB 10 false prog_1_method_11_code 11 sg_68_11 = true := by decide +kernel
def sg_68_25 : List RI := [(.iconst (-1), 1, 0, 0, 0, -1)]
theorem sk_68_25 : segB 10 false prog_1_method_11_code 25 sg_68_25 = true := by decide +kernel
def sg_68_27 : List RI := [(.aload_n 0, 1, 0, 0, 0, 0), (.getfield 12, 3, 10, 0, 2, 0), (.iload_n 1, 1, 0, 0, 0, 0)]
theorem sk_68_27 : segB 10 false prog_1_method_11_code 27 sg_68_27 = true := by decide +kernel
def sg_68_35 : List RI := [(.aload_n 0, 1, 0, 0, 0, 0), (.getfield 12, 3, 10, 0, 2, 0), (.getfield 189, 3, 1, 4, 0, 0)]
theorem sk_68_35 : segB 10 false prog_1_method_11_code 35 sg_68_35 = true := by decide +kernel
theorem ck_68_5 : decode prog_1_method_11_code 5 = .ok (.invokestatic 86, 3) ∧ lnkB 10 false 5 (.invokestatic 86, 3, 57, 0, 0, 0) = true := by decide +kernel
theorem ck_68_8 : decode prog_1_method_11_code 8 = .ok (.ifCond .eq 17, 3) ∧ lnkB 10 false 8 (.ifCond .eq 17, 3, 25, 0, 0, 0) = true := by decide +kernel
theorem ck_68_22 : decode prog_1_method_11_code 22 = .ok (.if_icmp .le 5, 3) ∧ lnkB 10 false 22 (.if_icmp .le 5, 3, 27, 0, 0, 0) = true := by decide +kernel
theorem ck_68_26 : decode prog_1_method_11_code 26 = .ok (.ireturn, 1) ∧ lnkB 10 false 26 (.ireturn, 1, 0, 0, 0, 0) = true := by decide +kernel
theorem ck_68_32 : decode prog_1_method_11_code 32 = .ok (.invokevirtual 192, 3) ∧ lnkB 10 false 32 (.invokevirtual 192, 3, 7, 0, 0, 0) = true := by decide +kernel
theorem ck_68_42 : decode prog_1_method_11_code 42 = .ok (.ireturn, 1) ∧ lnkB 10 false 42 (.ireturn, 1, 0, 0, 0, 0) = true := by decide +kernel
abbrev RU_68 (d : Nat) (cp : Nat × Nat) (Post : Option Value → Sto → Prop) : PP := Runs (Ex d) prog_1_method_11_code 10 false 2 (some .int) none cp Post
theorem en_68 {d : Nat} {As : List Value} {S : Sto} {mc ms : Nat} {Post : Option Value → Sto → Prop} (hc : cats As ≤ 2) (h : RU_68 d (mc, ms) Post 0 (lv_args 0 As) [] S 0 0) : Ex (d + 1) 68 As S mc ms Post := ⟨by decide, hc, h⟩
def sg_69_0 : List RI := [(.aload_n 0, 1, 0, 0, 0, 0), (.getfield 33, 3, 10, 3, 2, 0), (.getfield 196, 3, 7, 1, 0, 0), (.sipush 180, 3, 0, 0, 0, 180)]
theorem sk_69_0 : segB 10 false prog_1_method_12_code 0 sg_69_0 = true := by decide +kernel
def sg_69_13 : List RI := [(.iconst (-1), 1, 0, 0, 0, -1)]
theorem sk_69_13 : segB 10 false prog_1_method_12_code 13 sg_69_13 = true := by decide +kernel
def sg_69_15 : List RI := [(.aload_n 0, 1, 0, 0, 0, 0), (.getfield 33, 3, 10, 3, 2, 0), (.iload_n 1, 1, 0, 0, 0, 0)]
theorem sk_69_15 : segB 10 false prog_1_method_12_code 15 sg_69_15 = true := by decide +kernel
def sg_69_23 : List RI := [(.aload_n 0, 1, 0, 0, 0, 0), (.getfield 33, 3, 10, 3, 2, 0), (.iload_n 2, 1, 0, 0, 0, 0)]
theorem sk_69_23 : segB 10 false prog_1_method_12_code 23 sg_69_23 = true := by decide +kernel
def sg_69_31 : List RI := [(.aload_n 0, 1, 0, 0, 0, 0), (.getfield 33, 3, 10, 3, 2, 0), (.iload_n 3, 1, 0, 0, 0, 0)]
theorem sk_69_31 : segB 10 false prog_1_method_12_code 31 sg_69_31 = true := by decide +kernel
def sg_69_39 : List RI := [(.aload_n 0, 1, 0, 0, 0, 0), (.getfield 33, 3, 10, 3, 2, 0), (.iload 4, 2, 0, 0, 0, 0)]
theorem sk_69_39 : segB 10 false prog_1_method_12_code 39 sg_69_39 = true := by decide +kernel
def sg_69_48 : List RI := [(.aload_n 0, 1, 0, 0, 0, 0), (.getfield 33, 3, 10, 3, 2, 0), (.iload 5, 2, 0, 0, 0, 0)]
theorem sk_69_48 : segB 10 false prog_1_method_12_code 48 sg_69_48 = true := by decide +kernel
def sg_69_57 : List RI := [(.aload_n 0, 1, 0, 0, 0, 0), (.getfield 33, 3, 10, 3, 2, 0), (.getfield 196, 3, 7, 1, 0, 0)]
theorem sk_69_57 : segB 10 false prog_1_method_12_code 57 sg_69_57 = true := by decide +kernel
theorem ck_69_10 : decode prog_1_method_12_code 10 = .ok (.if_icmp .le 5, 3) ∧ lnkB 10 false 10 (.if_icmp .le 5, 3, 15, 0, 0, 0) = true := by decide +kernel
theorem ck_69_14 : decode prog_1_method_12_code 14 = .ok (.ireturn, 1) ∧ lnkB 10 false 14 (.ireturn, 1, 0, 0, 0, 0) = true := by decide +kernel
theorem ck_69_20 : decode prog_1_method_12_code 20 = .ok (.invokevirtual 199, 3) ∧ lnkB 10 false 20 (.invokevirtual 199, 3, 44, 0, 0, 0) = true := by decide +kernel
theorem ck_69_28 : decode prog_1_method_12_code 28 = .ok (.invokevirtual 199, 3) ∧ lnkB 10 false 28 (.invokevirtual 199, 3, 44, 0, 0, 0) = true := by decide +kernel
theorem ck_69_36 : decode prog_1_method_12_code 36 = .ok (.invokevirtual 199, 3) ∧ lnkB 10 false 36 (.invokevirtual 199, 3, 44, 0, 0, 0) = true := by decide +kernel
theorem ck_69_45 : decode prog_1_method_12_code 45 = .ok (.invokevirtual 199, 3) ∧ lnkB 10 false 45 (.invokevirtual 199, 3, 44, 0, 0, 0) = true := by decide +kernel
theorem ck_69_54 : decode prog_1_method_12_code 54 = .ok (.invokevirtual 199, 3) ∧ lnkB 10 false 54 (.invokevirtual 199, 3, 44, 0, 0, 0) = true := by decide +kernel
theorem ck_69_64 : decode prog_1_method_12_code 64 = .ok (.ireturn, 1) ∧ lnkB 10 false 64 (.ireturn, 1, 0, 0, 0, 0) = true := by decide +kernel
abbrev RU_69 (d : Nat) (cp : Nat × Nat) (Post : Option Value → Sto → Prop) : PP := Runs (Ex d) prog_1_method_12_code 10 false 6 (some .int) none cp Post
theorem en_69 {d : Nat} {As : List Value} {S : Sto} {mc ms : Nat} {Post : Option Value → Sto → Prop} (hc : cats As ≤ 6) (h : RU_69 d (mc, ms) Post 0 (lv_args 0 As) [] S 0 0) : Ex (d + 1) 69 As S mc ms Post := ⟨by decide, hc, h⟩
def sg_70_0 : List RI := [(.iload_n 1, 1, 0, 0, 0, 0), (.iconst 0, 1, 0, 0, 0, 0), (.aload_n 0, 1, 0, 0, 0, 0), (.getfield 33, 3, 10, 3, 2, 0), (.getfield 196, 3, 7, 1, 0, 0)]
theorem sk_70_0 : segB 10 false prog_1_method_13_code 0 sg_70_0 = true := by decide +kernel
def sg_70_15 : List RI := [(.iconst (-1), 1, 0, 0, 0, -1)]
theorem sk_70_15 : segB 10 false prog_1_method_13_code 15 sg_70_15 = true := by decide +kernel
def sg_70_17 : List RI := [(.aload_n 0, 1, 0, 0, 0, 0), (.getfield 33, 3, 10, 3, 2, 0), (.iload_n 1, 1, 0, 0, 0, 0), (.putfield 196, 3, 7, 1, 0, 0), (.iload_n 1, 1, 0, 0, 0, 0)]
theorem sk_70_17 : segB 10 false prog_1_method_13_code 17 sg_70_17 = true := by decide +kernel
theorem ck_70_9 : decode prog_1_method_13_code 9 = .ok (.invokestatic 86, 3) ∧ lnkB 10 false 9 (.invokestatic 86, 3, 57, 0, 0, 0) = true := by decide +kernel
theorem ck_70_12 : decode prog_1_method_13_code 12 = .ok (.ifCond .ne 5, 3) ∧ lnkB 10 false 12 (.ifCond .ne 5, 3, 17, 0, 0, 0) = true := by decide +kernel
theorem ck_70_16 : decode prog_1_method_13_code 16 = .ok (.ireturn, 1) ∧ lnkB 10 false 16 (.ireturn, 1, 0, 0, 0, 0) = true := by decide +kernel
theorem ck_70_26 : decode prog_1_method_13_code 26 = .ok (.ireturn, 1) ∧ lnkB 10 false 26 (.ireturn, 1, 0, 0, 0, 0) = true := by decide +kernel
abbrev RU_70 (d : Nat) (cp : Nat × Nat) (Post : Option Value → Sto → Prop) : PP := Runs (Ex d) prog_1_method_13_code 10 false 2 (some .int) none cp Post
theorem en_70 {d : Nat} {As : List Value} {S : Sto} {mc ms : Nat} {Post : Option Value → Sto → Prop} (hc : cats As ≤ 2) (h : RU_70 d (mc, ms) Post 0 (lv_args 0 As) [] S 0 0) : Ex (d + 1) 70 As S mc ms Post := ⟨by decide, hc, h⟩
def sg_71_0 : List RI := [(.iload_n 1, 1, 0, 0, 0, 0), (.iconst 0, 1, 0, 0, 0, 0), (.iconst 3, 1, 0, 0, 0, 3)]
theorem sk_71_0 : segB 10 false prog_1_method_14_code 0 sg_71_0 = true := by decide +kernel
def sg_71_9 : List RI := [(.iload_n 2, 1, 0, 0, 0, 0), (.iload_n 3, 1, 0, 0, 0, 0)]
theorem sk_71_9 : segB 10 false prog_1_method_14_code 9 sg_71_9 = true := by decide +kernel
def sg_71_17 : List RI := [(.iload 4, 2, 0, 0, 0, 0), (.iconst 1, 1, 0, 0, 0, 1), (.sipush 200, 3, 0, 0, 0, 200)]
theorem sk_71_17 : segB 10 false prog_1_method_14_code 17 sg_71_17 = true := by decide +kernel
def sg_71_29 : List RI := [(.aload_n 0, 1, 0, 0, 0, 0), (.getfield 12, 3, 10, 0, 2, 0), (.getfield 189, 3, 1, 4, 0, 0), (.iload 4, 2, 0, 0, 0, 0), (.iadd, 1, 0, 0, 0, 0), (.ldc 114, 2, 0, 0, 0, 100000)]
theorem sk_71_29 : segB 10 false prog_1_method_14_code 29 sg_71_29 = true := by decide +kernel
def sg_71_44 : List RI := [(.iconst (-1), 1, 0, 0, 0, -1)]
theorem sk_71_44 : segB 10 false prog_1_method_14_code 44 sg_71_44 = true := by decide +kernel
def sg_71_46 : List RI := [(.aload_n 0, 1, 0, 0, 0, 0), (.getfield 49, 3, 10, 5, 2, 0), (.aload_n 0, 1, 0, 0, 0, 0), (.getfield 33, 3, 10, 3, 2, 0), (.iload_n 2, 1, 0, 0, 0, 0)]
theorem sk_71_46 : segB 10 false prog_1_method_14_code 46 sg_71_46 = true := by decide +kernel
def sg_71_58 : List RI := [(.istore 5, 2, 0, 0, 0, 0), (.aload_n 0, 1, 0, 0, 0, 0), (.getfield 33, 3, 10, 3, 2, 0), (.iconst 0, 1, 0, 0, 0, 0), (.putfield 196, 3, 7, 1, 0, 0), (.iload 5, 2, 0, 0, 0, 0)]
theorem sk_71_58 : segB 10 false prog_1_method_14_code 58 sg_71_58 = true := by decide +kernel
def sg_71_73 : List RI := [(.bipush (-2), 2, 0, 0, 0, -2), (.iload 5, 2, 0, 0, 0, 0), (.isub, 1, 0, 0, 0, 0)]
theorem sk_71_73 : segB 10 false prog_1_method_14_code 73 sg_71_73 = true := by decide +kernel
def sg_71_79 : List RI := [(.aload_n 0, 1, 0, 0, 0, 0), (.getfield 40, 3, 10, 4, 2, 0), (.aload_n 0, 1, 0, 0, 0, 0), (.getfield 26, 3, 10, 2, 2, 0)]
theorem sk_71_79 : segB 10 false prog_1_method_14_code 79 sg_71_79 = true := by decide +kernel
def sg_71_90 : List RI := [(.istore 6, 2, 0, 0, 0, 0), (.iload 6, 2, 0, 0, 0, 0), (.aload_n 0, 1, 0, 0, 0, 0), (.getfield 12, 3, 10, 0, 2, 0), (.getfield 180, 3, 1, 3, 2, 0), (.iload_n 1, 1, 0, 0, 0, 0)]
theorem sk_71_90 : segB 10 false prog_1_method_14_code 90 sg_71_90 = true := by decide +kernel
def sg_71_106 : List RI := [(.aload_n 0, 1, 0, 0, 0, 0), (.aload_n 0, 1, 0, 0, 0, 0), (.getfield 40, 3, 10, 4, 2, 0), (.aload_n 0, 1, 0, 0, 0, 0), (.getfield 12, 3, 10, 0, 2, 0), (.getfield 180, 3, 1, 3, 2, 0), (.iload_n 1, 1, 0, 0, 0, 0)]
theorem sk_71_106 : segB 10 false prog_1_method_14_code 106 sg_71_106 = true := by decide +kernel
def sg_71_120 : List RI := [(.aload_n 0, 1, 0, 0, 0, 0), (.getfield 26, 3, 10, 2, 2, 0)]
theorem sk_71_120 : segB 10 false prog_1_method_14_code 120 sg_71_120 = true := by decide +kernel
def sg_71_127 : List RI := [(.putfield 82, 3, 10, 9, 0, 0), (.iconst 2, 1, 0, 0, 0, 2)]
theorem sk_71_127 : segB 10 false prog_1_method_14_code 127 sg_71_127 = true := by decide +kernel
def sg_71_132 : List RI := [(.aload_n 0, 1, 0, 0, 0, 0), (.getfield 12, 3, 10, 0, 2, 0), (.getfield 180, 3, 1, 3, 2, 0), (.iload_n 1, 1, 0, 0, 0, 0), (.dup2, 1, 0, 0, 0, 0)]
theorem sk_71_132 : segB 10 false prog_1_method_14_code 132 sg_71_132 = true := by decide +kernel
def sg_71_142 : List RI := [(.iload 6, 2, 0, 0, 0, 0), (.isub, 1, 0, 0, 0, 0)]
theorem sk_71_142 : segB 10 false prog_1_method_14_code 142 sg_71_142 = true := by decide +kernel
def sg_71_146 : List RI := [(.iload_n 2, 1, 0, 0, 0, 0), (.bipush 32, 2, 0, 0, 0, 32), (.imul, 1, 0, 0, 0, 0), (.iload_n 3, 1, 0, 0, 0, 0), (.iadd, 1, 0, 0, 0, 0), (.istore 7, 2, 0, 0, 0, 0), (.aload_n 0, 1, 0, 0, 0, 0), (.getfield 65, 3, 10, 7, 2, 0), (.iload 7, 2, 0, 0, 0, 0), (.iload 4, 2, 0, 0, 0, 0), (.aload_n 0, 1, 0, 0, 0, 0), (.getfield 12, 3, 10, 0, 2, 0), (.getfield 171, 3, 1, 0, 2, 0), (.iload_n 1, 1, 0, 0, 0, 0)]
theorem sk_71_146 : segB 10 false prog_1_method_14_code 146 sg_71_146 = true := by decide +kernel
def sg_71_174 : List RI := [(.aload_n 0, 1, 0, 0, 0, 0), (.getfield 78, 3, 10, 8, 2, 0), (.iload 7, 2, 0, 0, 0, 0)]
theorem sk_71_174 : segB 10 false prog_1_method_14_code 174 sg_71_174 = true := by decide +kernel
def sg_71_186 : List RI := [(.iconst 1, 1, 0, 0, 0, 1)]
theorem sk_71_186 : segB 10 false prog_1_method_14_code 186 sg_71_186 = true := by decide +kernel
def sg_71_190 : List RI := [(.iconst 0, 1, 0, 0, 0, 0)]
theorem sk_71_190 : segB 10 false prog_1_method_14_code 190 sg_71_190 = true := by decide +kernel
theorem ck_71_3 : decode prog_1_method_14_code 3 = .ok (.invokestatic 86, 3) ∧ lnkB 10 false 3 (.invokestatic 86, 3, 57, 0, 0, 0) = true := by decide +kernel
theorem ck_71_6 : decode prog_1_method_14_code 6 = .ok (.ifCond .eq 38, 3) ∧ lnkB 10 false 6 (.ifCond .eq 38, 3, 44, 0, 0, 0) = true := by decide +kernel
theorem ck_71_11 : decode prog_1_method_14_code 11 = .ok (.invokestatic 147, 3) ∧ lnkB 10 false 11 (.invokestatic 147, 3, 62, 0, 0, 0) = true := by decide +kernel
theorem ck_71_14 : decode prog_1_method_14_code 14 = .ok (.ifCond .eq 30, 3) ∧ lnkB 10 false 14 (.ifCond .eq 30, 3, 44, 0, 0, 0) = true := by decide +kernel
theorem ck_71_23 : decode prog_1_method_14_code 23 = .ok (.invokestatic 86, 3) ∧ lnkB 10 false 23 (.invokestatic 86, 3, 57, 0, 0, 0) = true := by decide +kernel
theorem ck_71_26 : decode prog_1_method_14_code 26 = .ok (.ifCond .eq 18, 3) ∧ lnkB 10 false 26 (.ifCond .eq 18, 3, 44, 0, 0, 0) = true := by decide +kernel
theorem ck_71_41 : decode prog_1_method_14_code 41 = .ok (.if_icmp .le 5, 3) ∧ lnkB 10 false 41 (.if_icmp .le 5, 3, 46, 0, 0, 0) = true := by decide +kernel
theorem ck_71_45 : decode prog_1_method_14_code 45 = .ok (.ireturn, 1) ∧ lnkB 10 false 45 (.ireturn, 1, 0, 0, 0, 0) = true := by decide +kernel
theorem ck_71_55 : decode prog_1_method_14_code 55 = .ok (.invokevirtual 202, 3) ∧ lnkB 10 false 55 (.invokevirtual 202, 3, 17, 0, 0, 0) = true := by decide +kernel
theorem ck_71_70 : decode prog_1_method_14_code 70 = .ok (.ifCond .eq 9, 3) ∧ lnkB 10 false 70 (.ifCond .eq 9, 3, 79, 0, 0, 0) = true := by decide +kernel
theorem ck_71_78 : decode prog_1_method_14_code 78 = .ok (.ireturn, 1) ∧ lnkB 10 false 78 (.ireturn, 1, 0, 0, 0, 0) = true := by decide +kernel
theorem ck_71_87 : decode prog_1_method_14_code 87 = .ok (.invokevirtual 206, 3) ∧ lnkB 10 false 87 (.invokevirtual 206, 3, 52, 0, 0, 0) = true := by decide +kernel
theorem ca_71_102 : decode prog_1_method_14_code 102 = .ok (.iaload, 1) ∧ lnkB 10 false 102 (.iaload, 1, 0, 0, 0, 0) = true := by decide +kernel
theorem ck_71_103 : decode prog_1_method_14_code 103 = .ok (.if_icmp .le 29, 3) ∧ lnkB 10 false 103 (.if_icmp .le 29, 3, 132, 0, 0, 0) = true := by decide +kernel
theorem ca_71_119 : decode prog_1_method_14_code 119 = .ok (.iaload, 1) ∧ lnkB 10 false 119 (.iaload, 1, 0, 0, 0, 0) = true := by decide +kernel
theorem ck_71_124 : decode prog_1_method_14_code 124 = .ok (.invokevirtual 210, 3) ∧ lnkB 10 false 124 (.invokevirtual 210, 3, 54, 0, 0, 0) = true := by decide +kernel
theorem ck_71_131 : decode prog_1_method_14_code 131 = .ok (.ireturn, 1) ∧ lnkB 10 false 131 (.ireturn, 1, 0, 0, 0, 0) = true := by decide +kernel
theorem ca_71_141 : decode prog_1_method_14_code 141 = .ok (.iaload, 1) ∧ lnkB 10 false 141 (.iaload, 1, 0, 0, 0, 0) = true := by decide +kernel
theorem ca_71_145 : decode prog_1_method_14_code 145 = .ok (.iastore, 1) ∧ lnkB 10 false 145 (.iastore, 1, 0, 0, 0, 0) = true := by decide +kernel
theorem ca_71_170 : decode prog_1_method_14_code 170 = .ok (.iaload, 1) ∧ lnkB 10 false 170 (.iaload, 1, 0, 0, 0, 0) = true := by decide +kernel
theorem ck_71_171 : decode prog_1_method_14_code 171 = .ok (.invokevirtual 214, 3) ∧ lnkB 10 false 171 (.invokevirtual 214, 3, 23, 0, 0, 0) = true := by decide +kernel
theorem ck_71_180 : decode prog_1_method_14_code 180 = .ok (.invokevirtual 218, 3) ∧ lnkB 10 false 180 (.invokevirtual 218, 3, 46, 0, 0, 0) = true := by decide +kernel
theorem ck_71_183 : decode prog_1_method_14_code 183 = .ok (.ifCond .eq 7, 3) ∧ lnkB 10 false 183 (.ifCond .eq 7, 3, 190, 0, 0, 0) = true := by decide +kernel
theorem ck_71_187 : decode prog_1_method_14_code 187 = .ok (.goto 4, 3) ∧ lnkB 10 false 187 (.goto 4, 3, 191, 0, 0, 0) = true := by decide +kernel
theorem ck_71_191 : decode prog_1_method_14_code 191 = .ok (.ireturn, 1) ∧ lnkB 10 false 191 (.ireturn, 1, 0, 0, 0, 0) = true := by decide +kernel
abbrev RU_71 (d : Nat) (cp : Nat × Nat) (Post : Option Value → Sto → Prop) : PP := Runs (Ex d) prog_1_method_14_code 10 false 8 (some .int) none cp Post
theorem en_71 {d : Nat} {As : List Value} {S : Sto} {mc ms : Nat} {Post : Option Value → Sto → Prop} (hc : cats As ≤ 8) (h : RU_71 d (mc, ms) Post 0 (lv_args 0 As) [] S 0 0) : Ex (d + 1) 71 As S mc ms Post := ⟨by decide, hc, h⟩
def sg_72_0 : List RI := [(.iload_n 1, 1, 0, 0, 0, 0), (.iconst 0, 1, 0, 0, 0, 0), (.iconst 5, 1, 0, 0, 0, 5)]
theorem sk_72_0 : segB 10 false prog_1_method_15_code 0 sg_72_0 = true := by decide +kernel
def sg_72_9 : List RI := [(.iconst (-1), 1, 0, 0, 0, -1)]
theorem sk_72_9 : segB 10 false prog_1_method_15_code 9 sg_72_9 = true := by decide +kernel
def sg_72_11 : List RI := [(.aload_n 0, 1, 0, 0, 0, 0), (.getfield 49, 3, 10, 5, 2, 0), (.aload_n 0, 1, 0, 0, 0, 0), (.getfield 33, 3, 10, 3, 2, 0), (.iload_n 1, 1, 0, 0, 0, 0)]
theorem sk_72_11 : segB 10 false prog_1_method_15_code 11 sg_72_11 = true := by decide +kernel
def sg_72_23 : List RI := [(.istore_n 2, 1, 0, 0, 0, 0), (.iload_n 2, 1, 0, 0, 0, 0)]
theorem sk_72_23 : segB 10 false prog_1_method_15_code 23 sg_72_23 = true := by decide +kernel
def sg_72_28 : List RI := [(.bipush (-2), 2, 0, 0, 0, -2), (.iload_n 2, 1, 0, 0, 0, 0), (.isub, 1, 0, 0, 0, 0)]
theorem sk_72_28 : segB 10 false prog_1_method_15_code 28 sg_72_28 = true := by decide +kernel
def sg_72_35 : List RI := [(.aload_n 0, 1, 0, 0, 0, 0), (.getfield 40, 3, 10, 4, 2, 0), (.aload_n 0, 1, 0, 0, 0, 0), (.getfield 26, 3, 10, 2, 2, 0)]
theorem sk_72_35 : segB 10 false prog_1_method_15_code 35 sg_72_35 = true := by decide +kernel
theorem ck_72_3 : decode prog_1_method_15_code 3 = .ok (.invokestatic 86, 3) ∧ lnkB 10 false 3 (.invokestatic 86, 3, 57, 0, 0, 0) = true := by decide +kernel
theorem ck_72_6 : decode prog_1_method_15_code 6 = .ok (.ifCond .ne 5, 3) ∧ lnkB 10 false 6 (.ifCond .ne 5, 3, 11, 0, 0, 0) = true := by decide +kernel
theorem ck_72_10 : decode prog_1_method_15_code 10 = .ok (.ireturn, 1) ∧ lnkB 10 false 10 (.ireturn, 1, 0, 0, 0, 0) = true := by decide +kernel
theorem ck_72_20 : decode prog_1_method_15_code 20 = .ok (.invokevirtual 202, 3) ∧ lnkB 10 false 20 (.invokevirtual 202, 3, 17, 0, 0, 0) = true := by decide +kernel
theorem ck_72_25 : decode prog_1_method_15_code 25 = .ok (.ifCond .eq 10, 3) ∧ lnkB 10 false 25 (.ifCond .eq 10, 3, 35, 0, 0, 0) = true := by decide +kernel
theorem ck_72_32 : decode prog_1_method_15_code 32 = .ok (.goto 14, 3) ∧ lnkB 10 false 32 (.goto 14, 3, 46, 0, 0, 0) = true := by decide +kernel
theorem ck_72_43 : decode prog_1_method_15_code 43 = .ok (.invokevirtual 206, 3) ∧ lnkB 10 false 43 (.invokevirtual 206, 3, 52, 0, 0, 0) = true := by decide +kernel
theorem ck_72_46 : decode prog_1_method_15_code 46 = .ok (.ireturn, 1) ∧ lnkB 10 false 46 (.ireturn, 1, 0, 0, 0, 0) = true := by decide +kernel
abbrev RU_72 (d : Nat) (cp : Nat × Nat) (Post : Option Value → Sto → Prop) : PP := Runs (Ex d) prog_1_method_15_code 10 false 3 (some .int) none cp Post
theorem en_72 {d : Nat} {As : List Value} {S : Sto} {mc ms : Nat} {Post : Option Value → Sto → Prop} (hc : cats As ≤ 3) (h : RU_72 d (mc, ms) Post 0 (lv_args 0 As) [] S 0 0) : Ex (d + 1) 72 As S mc ms Post := ⟨by decide, hc, h⟩
def sg_73_0 : List RI := [(.aload_n 0, 1, 0, 0, 0, 0), (.getfield 82, 3, 10, 9, 0, 0)]
theorem sk_73_0 : segB 10 false prog_1_method_16_code 0 sg_73_0 = true := by decide +kernel
theorem ck_73_4 : decode prog_1_method_16_code 4 = .ok (.ireturn, 1) ∧ lnkB 10 false 4 (.ireturn, 1, 0, 0, 0, 0) = true := by decide +kernel
abbrev RU_73 (d : Nat) (cp : Nat × Nat) (Post : Option Value → Sto → Prop) : PP := Runs (Ex d) prog_1_method_16_code 10 false 1 (some .int) none cp Post
theorem en_73 {d : Nat} {As : List Value} {S : Sto} {mc ms : Nat} {Post : Option Value → Sto → Prop} (hc : cats As ≤ 1) (h : RU_73 d (mc, ms) Post 0 (lv_args 0 As) [] S 0 0) : Ex (d + 1) 73 As S mc ms Post := ⟨by decide, hc, h⟩
def sg_74_0 : List RI := [(.iload_n 1, 1, 0, 0, 0, 0), (.iconst 0, 1, 0, 0, 0, 0), (.aload_n 0, 1, 0, 0, 0, 0), (.getfield 78, 3, 10, 8, 2, 0), (.getfield 222, 3, 8, 1, 0, 0), (.iconst 1, 1, 0, 0, 0, 1), (.isub, 1, 0, 0, 0, 0)]
theorem sk_74_0 : segB 10 false prog_1_method_17_code 0 sg_74_0 = true := by decide +kernel
def sg_74_17 : List RI := [(.aload_n 0, 1, 0, 0, 0, 0), (.getfield 78, 3, 10, 8, 2, 0), (.getfield 223, 3, 8, 0, 2, 0), (.iload_n 1, 1, 0, 0, 0, 0)]
theorem sk_74_17 : segB 10 false prog_1_method_17_code 17 sg_74_17 = true := by decide +kernel
def sg_74_29 : List RI := [(.iconst (-1), 1, 0, 0, 0, -1)]
theorem sk_74_29 : segB 10 false prog_1_method_17_code 29 sg_74_29 = true := by decide +kernel
theorem ck_74_11 : decode prog_1_method_17_code 11 = .ok (.invokestatic 86, 3) ∧ lnkB 10 false 11 (.invokestatic 86, 3, 57, 0, 0, 0) = true := by decide +kernel
theorem ck_74_14 : decode prog_1_method_17_code 14 = .ok (.ifCond .eq 15, 3) ∧ lnkB 10 false 14 (.ifCond .eq 15, 3, 29, 0, 0, 0) = true := by decide +kernel
theorem ca_74_25 : decode prog_1_method_17_code 25 = .ok (.iaload, 1) ∧ lnkB 10 false 25 (.iaload, 1, 0, 0, 0, 0) = true := by decide +kernel
theorem ck_74_26 : decode prog_1_method_17_code 26 = .ok (.goto 4, 3) ∧ lnkB 10 false 26 (.goto 4, 3, 30, 0, 0, 0) = true := by decide +kernel
theorem ck_74_30 : decode prog_1_method_17_code 30 = .ok (.ireturn, 1) ∧ lnkB 10 false 30 (.ireturn, 1, 0, 0, 0, 0) = true := by decide +kernel
abbrev RU_74 (d : Nat) (cp : Nat × Nat) (Post : Option Value → Sto → Prop) : PP := Runs (Ex d) prog_1_method_17_code 10 false 2 (some .int) none cp Post
theorem en_74 {d : Nat} {As : List Value} {S : Sto} {mc ms : Nat} {Post : Option Value → Sto → Prop} (hc : cats As ≤ 2) (h : RU_74 d (mc, ms) Post 0 (lv_args 0 As) [] S 0 0) : Ex (d + 1) 74 As S mc ms Post := ⟨by decide, hc, h⟩
def sg_75_0 : List RI := [(.iload_n 1, 1, 0, 0, 0, 0), (.iconst 0, 1, 0, 0, 0, 0), (.aload_n 0, 1, 0, 0, 0, 0), (.getfield 56, 3, 10, 6, 2, 0), (.getfield 226, 3, 0, 5, 0, 0), (.iconst 1, 1, 0, 0, 0, 1), (.isub, 1, 0, 0, 0, 0)]
theorem sk_75_0 : segB 10 false prog_1_method_18_code 0 sg_75_0 = true := by decide +kernel
def sg_75_17 : List RI := [(.iconst (-1), 1, 0, 0, 0, -1)]
theorem sk_75_17 : segB 10 false prog_1_method_18_code 17 sg_75_17 = true := by decide +kernel
def sg_75_19 : List RI := [(.iload_n 2, 1, 0, 0, 0, 0)]
theorem sk_75_19 : segB 10 false prog_1_method_18_code 19 sg_75_19 = true := by decide +kernel
def sg_75_56 : List RI := [(.aload_n 0, 1, 0, 0, 0, 0), (.getfield 56, 3, 10, 6, 2, 0), (.getfield 229, 3, 0, 0, 2, 0), (.iload_n 1, 1, 0, 0, 0, 0)]
theorem sk_75_56 : segB 10 false prog_1_method_18_code 56 sg_75_56 = true := by decide +kernel
def sg_75_66 : List RI := [(.aload_n 0, 1, 0, 0, 0, 0), (.getfield 56, 3, 10, 6, 2, 0), (.getfield 230, 3, 0, 1, 2, 0), (.iload_n 1, 1, 0, 0, 0, 0)]
theorem sk_75_66 : segB 10 false prog_1_method_18_code 66 sg_75_66 = true := by decide +kernel
def sg_75_76 : List RI := [(.aload_n 0, 1, 0, 0, 0, 0), (.getfield 56, 3, 10, 6, 2, 0), (.getfield 233, 3, 0, 2, 2, 0), (.iload_n 1, 1, 0, 0, 0, 0)]
theorem sk_75_76 : segB 10 false prog_1_method_18_code 76 sg_75_76 = true := by decide +kernel
def sg_75_86 : List RI := [(.aload_n 0, 1, 0, 0, 0, 0), (.getfield 56, 3, 10, 6, 2, 0), (.getfield 236, 3, 0, 3, 2, 0), (.iload_n 1, 1, 0, 0, 0, 0)]
theorem sk_75_86 : segB 10 false prog_1_method_18_code 86 sg_75_86 = true := by decide +kernel
def sg_75_96 : List RI := [(.aload_n 0, 1, 0, 0, 0, 0), (.getfield 56, 3, 10, 6, 2, 0), (.getfield 239, 3, 0, 4, 2, 0), (.iload_n 1, 1, 0, 0, 0, 0)]
theorem sk_75_96 : segB 10 false prog_1_method_18_code 96 sg_75_96 = true := by decide +kernel
def sg_75_106 : List RI := [(.iload_n 2, 1, 0, 0, 0, 0), (.bipush 10, 2, 0, 0, 0, 10)]
theorem sk_75_106 : segB 10 false prog_1_method_18_code 106 sg_75_106 = true := by decide +kernel
def sg_75_112 : List RI := [(.iconst (-1), 1, 0, 0, 0, -1)]
theorem sk_75_112 : segB 10 false prog_1_method_18_code 112 sg_75_112 = true := by decide +kernel
def sg_75_116 : List RI := [(.aload_n 0, 1, 0, 0, 0, 0), (.getfield 56, 3, 10, 6, 2, 0), (.iload_n 1, 1, 0, 0, 0, 0), (.iload_n 2, 1, 0, 0, 0, 0), (.bipush 10, 2, 0, 0, 0, 10), (.isub, 1, 0, 0, 0, 0)]
theorem sk_75_116 : segB 10 false prog_1_method_18_code 116 sg_75_116 = true := by decide +kernel
theorem ck_75_11 : decode prog_1_method_18_code 11 = .ok (.invokestatic 86, 3) ∧ lnkB 10 false 11 (.invokestatic 86, 3, 57, 0, 0, 0) = true := by decide +kernel
theorem ck_75_14 : decode prog_1_method_18_code 14 = .ok (.ifCond .ne 5, 3) ∧ lnkB 10 false 14 (.ifCond .ne 5, 3, 19, 0, 0, 0) = true := by decide +kernel
theorem ck_75_18 : decode prog_1_method_18_code 18 = .ok (.ireturn, 1) ∧ lnkB 10 false 18 (.ireturn, 1, 0, 0, 0, 0) = true := by decide +kernel
theorem ck_75_20 : decode prog_1_method_18_code 20 = .ok (.tableswitch 86 0 4 #[36, 46, 56, 66, 76], 36) ∧ lnkB 10 false 20 (.tableswitch 86 0 4 #[36, 46, 56, 66, 76], 36, 0, 0, 0, 0) = true := by decide +kernel
theorem ca_75_64 : decode prog_1_method_18_code 64 = .ok (.iaload, 1) ∧ lnkB 10 false 64 (.iaload, 1, 0, 0, 0, 0) = true := by decide +kernel
theorem ck_75_65 : decode prog_1_method_18_code 65 = .ok (.ireturn, 1) ∧ lnkB 10 false 65 (.ireturn, 1, 0, 0, 0, 0) = true := by decide +kernel
theorem ca_75_74 : decode prog_1_method_18_code 74 = .ok (.iaload, 1) ∧ lnkB 10 false 74 (.iaload, 1, 0, 0, 0, 0) = true := by decide +kernel
theorem ck_75_75 : decode prog_1_method_18_code 75 = .ok (.ireturn, 1) ∧ lnkB 10 false 75 (.ireturn, 1, 0, 0, 0, 0) = true := by decide +kernel
theorem ca_75_84 : decode prog_1_method_18_code 84 = .ok (.iaload, 1) ∧ lnkB 10 false 84 (.iaload, 1, 0, 0, 0, 0) = true := by decide +kernel
theorem ck_75_85 : decode prog_1_method_18_code 85 = .ok (.ireturn, 1) ∧ lnkB 10 false 85 (.ireturn, 1, 0, 0, 0, 0) = true := by decide +kernel
theorem ca_75_94 : decode prog_1_method_18_code 94 = .ok (.iaload, 1) ∧ lnkB 10 false 94 (.iaload, 1, 0, 0, 0, 0) = true := by decide +kernel
theorem ck_75_95 : decode prog_1_method_18_code 95 = .ok (.ireturn, 1) ∧ lnkB 10 false 95 (.ireturn, 1, 0, 0, 0, 0) = true := by decide +kernel
theorem ca_75_104 : decode prog_1_method_18_code 104 = .ok (.iaload, 1) ∧ lnkB 10 false 104 (.iaload, 1, 0, 0, 0, 0) = true := by decide +kernel
theorem ck_75_105 : decode prog_1_method_18_code 105 = .ok (.ireturn, 1) ∧ lnkB 10 false 105 (.ireturn, 1, 0, 0, 0, 0) = true := by decide +kernel
theorem ck_75_109 : decode prog_1_method_18_code 109 = .ok (.if_icmp .ge 7, 3) ∧ lnkB 10 false 109 (.if_icmp .ge 7, 3, 116, 0, 0, 0) = true := by decide +kernel
theorem ck_75_113 : decode prog_1_method_18_code 113 = .ok (.goto 15, 3) ∧ lnkB 10 false 113 (.goto 15, 3, 128, 0, 0, 0) = true := by decide +kernel
theorem ck_75_125 : decode prog_1_method_18_code 125 = .ok (.invokevirtual 240, 3) ∧ lnkB 10 false 125 (.invokevirtual 240, 3, 5, 0, 0, 0) = true := by decide +kernel
theorem ck_75_128 : decode prog_1_method_18_code 128 = .ok (.ireturn, 1) ∧ lnkB 10 false 128 (.ireturn, 1, 0, 0, 0, 0) = true := by decide +kernel
abbrev RU_75 (d : Nat) (cp : Nat × Nat) (Post : Option Value → Sto → Prop) : PP := Runs (Ex d) prog_1_method_18_code 10 false 3 (some .int) none cp Post
theorem en_75 {d : Nat} {As : List Value} {S : Sto} {mc ms : Nat} {Post : Option Value → Sto → Prop} (hc : cats As ≤ 3) (h : RU_75 d (mc, ms) Post 0 (lv_args 0 As) [] S 0 0) : Ex (d + 1) 75 As S mc ms Post := ⟨by decide, hc, h⟩
def sg_76_0 : List RI := [(.iload_n 1, 1, 0, 0, 0, 0), (.iconst 0, 1, 0, 0, 0, 0), (.iconst 4, 1, 0, 0, 0, 4)]
theorem sk_76_0 : segB 10 false prog_1_method_19_code 0 sg_76_0 = true := by decide +kernel
def sg_76_9 : List RI := [(.iconst (-1), 1, 0, 0, 0, -1)]
theorem sk_76_9 : segB 10 false prog_1_method_19_code 9 sg_76_9 = true := by decide +kernel
def sg_76_11 : List RI := [(.aload_n 0, 1, 0, 0, 0, 0), (.getfield 19, 3, 10, 1, 2, 0), (.getfield 90, 3, 3, 0, 2, 0), (.iload_n 1, 1, 0, 0, 0, 0)]
theorem sk_76_11 : segB 10 false prog_1_method_19_code 11 sg_76_11 = true := by decide +kernel
def sg_76_20 : List RI := [(.astore_n 3, 1, 0, 0, 0, 0), (.iload_n 2, 1, 0, 0, 0, 0)]
theorem sk_76_20 : segB 10 false prog_1_method_19_code 20 sg_76_20 = true := by decide +kernel
def sg_76_48 : List RI := [(.aload_n 3, 1, 0, 0, 0, 0), (.getfield 243, 3, 2, 5, 0, 0)]
theorem sk_76_48 : segB 10 false prog_1_method_19_code 48 sg_76_48 = true := by decide +kernel
def sg_76_55 : List RI := [(.iconst 0, 1, 0, 0, 0, 0)]
theorem sk_76_55 : segB 10 false prog_1_method_19_code 55 sg_76_55 = true := by decide +kernel
def sg_76_57 : List RI := [(.aload_n 3, 1, 0, 0, 0, 0), (.aload_n 0, 1, 0, 0, 0, 0), (.getfield 12, 3, 10, 0, 2, 0), (.getfield 189, 3, 1, 4, 0, 0)]
theorem sk_76_57 : segB 10 false prog_1_method_19_code 57 sg_76_57 = true := by decide +kernel
def sg_76_71 : List RI := [(.iconst 1, 1, 0, 0, 0, 1)]
theorem sk_76_71 : segB 10 false prog_1_method_19_code 71 sg_76_71 = true := by decide +kernel
def sg_76_75 : List RI := [(.iconst 2, 1, 0, 0, 0, 2)]
theorem sk_76_75 : segB 10 false prog_1_method_19_code 75 sg_76_75 = true := by decide +kernel
def sg_76_77 : List RI := [(.aload_n 3, 1, 0, 0, 0, 0), (.getfield 250, 3, 2, 6, 0, 0)]
theorem sk_76_77 : segB 10 false prog_1_method_19_code 77 sg_76_77 = true := by decide +kernel
def sg_76_82 : List RI := [(.aload_n 3, 1, 0, 0, 0, 0), (.getfield 243, 3, 2, 5, 0, 0)]
theorem sk_76_82 : segB 10 false prog_1_method_19_code 82 sg_76_82 = true := by decide +kernel
def sg_76_89 : List RI := [(.iconst (-1), 1, 0, 0, 0, -1)]
theorem sk_76_89 : segB 10 false prog_1_method_19_code 89 sg_76_89 = true := by decide +kernel
def sg_76_93 : List RI := [(.aload_n 3, 1, 0, 0, 0, 0), (.getfield 253, 3, 2, 7, 0, 0)]
theorem sk_76_93 : segB 10 false prog_1_method_19_code 93 sg_76_93 = true := by decide +kernel
def sg_76_98 : List RI := [(.iconst (-1), 1, 0, 0, 0, -1)]
theorem sk_76_98 : segB 10 false prog_1_method_19_code 98 sg_76_98 = true := by decide +kernel
theorem ck_76_3 : decode prog_1_method_19_code 3 = .ok (.invokestatic 86, 3) ∧ lnkB 10 false 3 (.invokestatic 86, 3, 57, 0, 0, 0) = true := by decide +kernel
theorem ck_76_6 : decode prog_1_method_19_code 6 = .ok (.ifCond .ne 5, 3) ∧ lnkB 10 false 6 (.ifCond .ne 5, 3, 11, 0, 0, 0) = true := by decide +kernel
theorem ck_76_10 : decode prog_1_method_19_code 10 = .ok (.ireturn, 1) ∧ lnkB 10 false 10 (.ireturn, 1, 0, 0, 0, 0) = true := by decide +kernel
theorem ca_76_19 : decode prog_1_method_19_code 19 = .ok (.aaload, 1) ∧ lnkB 10 false 19 (.aaload, 1, 0, 0, 0, 0) = true := by decide +kernel
theorem ck_76_22 : decode prog_1_method_19_code 22 = .ok (.tableswitch 76 0 2 #[26, 55, 60], 26) ∧ lnkB 10 false 22 (.tableswitch 76 0 2 #[26, 55, 60], 26, 0, 0, 0, 0) = true := by decide +kernel
theorem ck_76_52 : decode prog_1_method_19_code 52 = .ok (.ifCond .eq 5, 3) ∧ lnkB 10 false 52 (.ifCond .eq 5, 3, 57, 0, 0, 0) = true := by decide +kernel
theorem ck_76_56 : decode prog_1_method_19_code 56 = .ok (.ireturn, 1) ∧ lnkB 10 false 56 (.ireturn, 1, 0, 0, 0, 0) = true := by decide +kernel
theorem ck_76_65 : decode prog_1_method_19_code 65 = .ok (.invokevirtual 247, 3) ∧ lnkB 10 false 65 (.invokevirtual 247, 3, 10, 0, 0, 0) = true := by decide +kernel
theorem ck_76_68 : decode prog_1_method_19_code 68 = .ok (.ifCond .eq 7, 3) ∧ lnkB 10 false 68 (.ifCond .eq 7, 3, 75, 0, 0, 0) = true := by decide +kernel
theorem ck_76_72 : decode prog_1_method_19_code 72 = .ok (.goto 4, 3) ∧ lnkB 10 false 72 (.goto 4, 3, 76, 0, 0, 0) = true := by decide +kernel
theorem ck_76_76 : decode prog_1_method_19_code 76 = .ok (.ireturn, 1) ∧ lnkB 10 false 76 (.ireturn, 1, 0, 0, 0, 0) = true := by decide +kernel
theorem ck_76_81 : decode prog_1_method_19_code 81 = .ok (.ireturn, 1) ∧ lnkB 10 false 81 (.ireturn, 1, 0, 0, 0, 0) = true := by decide +kernel
theorem ck_76_86 : decode prog_1_method_19_code 86 = .ok (.ifCond .eq 7, 3) ∧ lnkB 10 false 86 (.ifCond .eq 7, 3, 93, 0, 0, 0) = true := by decide +kernel
theorem ck_76_90 : decode prog_1_method_19_code 90 = .ok (.goto 7, 3) ∧ lnkB 10 false 90 (.goto 7, 3, 97, 0, 0, 0) = true := by decide +kernel
theorem ck_76_97 : decode prog_1_method_19_code 97 = .ok (.ireturn, 1) ∧ lnkB 10 false 97 (.ireturn, 1, 0, 0, 0, 0) = true := by decide +kernel
theorem ck_76_99 : decode prog_1_method_19_code 99 = .ok (.ireturn, 1) ∧ lnkB 10 false 99 (.ireturn, 1, 0, 0, 0, 0) = true := by decide +kernel
abbrev RU_76 (d : Nat) (cp : Nat × Nat) (Post : Option Value → Sto → Prop) : PP := Runs (Ex d) prog_1_method_19_code 10 false 4 (some .int) none cp Post
theorem en_76 {d : Nat} {As : List Value} {S : Sto} {mc ms : Nat} {Post : Option Value → Sto → Prop} (hc : cats As ≤ 4) (h : RU_76 d (mc, ms) Post 0 (lv_args 0 As) [] S 0 0) : Ex (d + 1) 76 As S mc ms Post := ⟨by decide, hc, h⟩
def sg_77_0 : List RI := [(.iload_n 1, 1, 0, 0, 0, 0), (.iload_n 2, 1, 0, 0, 0, 0)]
theorem sk_77_0 : segB 10 false prog_1_method_20_code 0 sg_77_0 = true := by decide +kernel
def sg_77_8 : List RI := [(.iconst (-1), 1, 0, 0, 0, -1)]
theorem sk_77_8 : segB 10 false prog_1_method_20_code 8 sg_77_8 = true := by decide +kernel
def sg_77_10 : List RI := [(.iload_n 1, 1, 0, 0, 0, 0), (.bipush 32, 2, 0, 0, 0, 32), (.imul, 1, 0, 0, 0, 0), (.iload_n 2, 1, 0, 0, 0, 0), (.iadd, 1, 0, 0, 0, 0), (.istore_n 3, 1, 0, 0, 0, 0), (.aload_n 0, 1, 0, 0, 0, 0), (.getfield 26, 3, 10, 2, 2, 0), (.getfield 131, 3, 6, 8, 2, 0), (.iload_n 3, 1, 0, 0, 0, 0)]
theorem sk_77_10 : segB 10 false prog_1_method_20_code 10 sg_77_10 = true := by decide +kernel
def sg_77_26 : List RI := [(.aload_n 0, 1, 0, 0, 0, 0), (.getfield 12, 3, 10, 0, 2, 0), (.getfield 189, 3, 1, 4, 0, 0)]
theorem sk_77_26 : segB 10 false prog_1_method_20_code 26 sg_77_26 = true := by decide +kernel
def sg_77_36 : List RI := [(.aload_n 0, 1, 0, 0, 0, 0), (.getfield 26, 3, 10, 2, 2, 0), (.getfield 131, 3, 6, 8, 2, 0), (.iload_n 3, 1, 0, 0, 0, 0)]
theorem sk_77_36 : segB 10 false prog_1_method_20_code 36 sg_77_36 = true := by decide +kernel
def sg_77_48 : List RI := [(.iconst (-1), 1, 0, 0, 0, -1)]
theorem sk_77_48 : segB 10 false prog_1_method_20_code 48 sg_77_48 = true := by decide +kernel
theorem ck_77_2 : decode prog_1_method_20_code 2 = .ok (.invokestatic 147, 3) ∧ lnkB 10 false 2 (.invokestatic 147, 3, 62, 0, 0, 0) = true := by decide +kernel
theorem ck_77_5 : decode prog_1_method_20_code 5 = .ok (.ifCond .ne 5, 3) ∧ lnkB 10 false 5 (.ifCond .ne 5, 3, 10, 0, 0, 0) = true := by decide +kernel
theorem ck_77_9 : decode prog_1_method_20_code 9 = .ok (.ireturn, 1) ∧ lnkB 10 false 9 (.ireturn, 1, 0, 0, 0, 0) = true := by decide +kernel
theorem ca_77_25 : decode prog_1_method_20_code 25 = .ok (.iaload, 1) ∧ lnkB 10 false 25 (.iaload, 1, 0, 0, 0, 0) = true := by decide +kernel
theorem ck_77_33 : decode prog_1_method_20_code 33 = .ok (.if_icmp .le 15, 3) ∧ lnkB 10 false 33 (.if_icmp .le 15, 3, 48, 0, 0, 0) = true := by decide +kernel
theorem ca_77_44 : decode prog_1_method_20_code 44 = .ok (.iaload, 1) ∧ lnkB 10 false 44 (.iaload, 1, 0, 0, 0, 0) = true := by decide +kernel
theorem ck_77_45 : decode prog_1_method_20_code 45 = .ok (.goto 4, 3) ∧ lnkB 10 false 45 (.goto 4, 3, 49, 0, 0, 0) = true := by decide +kernel
theorem ck_77_49 : decode prog_1_method_20_code 49 = .ok (.ireturn, 1) ∧ lnkB 10 false 49 (.ireturn, 1, 0, 0, 0, 0) = true := by decide +kernel
abbrev RU_77 (d : Nat) (cp : Nat × Nat) (Post : Option Value → Sto → Prop) : PP := Runs (Ex d) prog_1_method_20_code 10 false 4 (some .int) none cp Post
theorem en_77 {d : Nat} {As : List Value} {S : Sto} {mc ms : Nat} {Post : Option Value → Sto → Prop} (hc : cats As ≤ 4) (h : RU_77 d (mc, ms) Post 0 (lv_args 0 As) [] S 0 0) : Ex (d + 1) 77 As S mc ms Post := ⟨by decide, hc, h⟩
def sg_78_0 : List RI := [(.iload_n 1, 1, 0, 0, 0, 0)]
theorem sk_78_0 : segB 10 false prog_1_method_21_code 0 sg_78_0 = true := by decide +kernel
def sg_78_44 : List RI := [(.aload_n 0, 1, 0, 0, 0, 0), (.getfield 12, 3, 10, 0, 2, 0), (.getfield 189, 3, 1, 4, 0, 0)]
theorem sk_78_44 : segB 10 false prog_1_method_21_code 44 sg_78_44 = true := by decide +kernel
def sg_78_52 : List RI := [(.aload_n 0, 1, 0, 0, 0, 0), (.getfield 33, 3, 10, 3, 2, 0), (.getfield 196, 3, 7, 1, 0, 0)]
theorem sk_78_52 : segB 10 false prog_1_method_21_code 52 sg_78_52 = true := by decide +kernel
def sg_78_60 : List RI := [(.aload_n 0, 1, 0, 0, 0, 0), (.getfield 56, 3, 10, 6, 2, 0), (.getfield 226, 3, 0, 5, 0, 0)]
theorem sk_78_60 : segB 10 false prog_1_method_21_code 60 sg_78_60 = true := by decide +kernel
def sg_78_68 : List RI := [(.aload_n 0, 1, 0, 0, 0, 0), (.getfield 78, 3, 10, 8, 2, 0), (.getfield 222, 3, 8, 1, 0, 0)]
theorem sk_78_68 : segB 10 false prog_1_method_21_code 68 sg_78_68 = true := by decide +kernel
def sg_78_76 : List RI := [(.aload_n 0, 1, 0, 0, 0, 0), (.getfield 65, 3, 10, 7, 2, 0), (.getfield 256, 3, 5, 1, 0, 0)]
theorem sk_78_76 : segB 10 false prog_1_method_21_code 76 sg_78_76 = true := by decide +kernel
def sg_78_84 : List RI := [(.aload_n 0, 1, 0, 0, 0, 0), (.getfield 65, 3, 10, 7, 2, 0)]
theorem sk_78_84 : segB 10 false prog_1_method_21_code 84 sg_78_84 = true := by decide +kernel
def sg_78_92 : List RI := [(.aload_n 0, 1, 0, 0, 0, 0), (.getfield 19, 3, 10, 1, 2, 0), (.getfield 115, 3, 3, 1, 0, 0)]
theorem sk_78_92 : segB 10 false prog_1_method_21_code 92 sg_78_92 = true := by decide +kernel
def sg_78_100 : List RI := [(.iload_n 1, 1, 0, 0, 0, 0), (.bipush 10, 2, 0, 0, 0, 10), (.bipush 13, 2, 0, 0, 0, 13)]
theorem sk_78_100 : segB 10 false prog_1_method_21_code 100 sg_78_100 = true := by decide +kernel
def sg_78_111 : List RI := [(.aload_n 0, 1, 0, 0, 0, 0), (.getfield 12, 3, 10, 0, 2, 0), (.getfield 180, 3, 1, 3, 2, 0), (.iload_n 1, 1, 0, 0, 0, 0), (.bipush 10, 2, 0, 0, 0, 10), (.isub, 1, 0, 0, 0, 0)]
theorem sk_78_111 : segB 10 false prog_1_method_21_code 111 sg_78_111 = true := by decide +kernel
def sg_78_126 : List RI := [(.iconst (-1), 1, 0, 0, 0, -1)]
theorem sk_78_126 : segB 10 false prog_1_method_21_code 126 sg_78_126 = true := by decide +kernel
theorem ck_78_1 : decode prog_1_method_21_code 1 = .ok (.tableswitch 99 0 6 #[43, 51, 59, 67, 75, 83, 91], 43) ∧ lnkB 10 false 1 (.tableswitch 99 0 6 #[43, 51, 59, 67, 75, 83, 91], 43, 0, 0, 0, 0) = true := by decide +kernel
theorem ck_78_51 : decode prog_1_method_21_code 51 = .ok (.ireturn, 1) ∧ lnkB 10 false 51 (.ireturn, 1, 0, 0, 0, 0) = true := by decide +kernel
theorem ck_78_59 : decode prog_1_method_21_code 59 = .ok (.ireturn, 1) ∧ lnkB 10 false 59 (.ireturn, 1, 0, 0, 0, 0) = true := by decide +kernel
theorem ck_78_67 : decode prog_1_method_21_code 67 = .ok (.ireturn, 1) ∧ lnkB 10 false 67 (.ireturn, 1, 0, 0, 0, 0) = true := by decide +kernel
theorem ck_78_75 : decode prog_1_method_21_code 75 = .ok (.ireturn, 1) ∧ lnkB 10 false 75 (.ireturn, 1, 0, 0, 0, 0) = true := by decide +kernel
theorem ck_78_83 : decode prog_1_method_21_code 83 = .ok (.ireturn, 1) ∧ lnkB 10 false 83 (.ireturn, 1, 0, 0, 0, 0) = true := by decide +kernel
theorem ck_78_88 : decode prog_1_method_21_code 88 = .ok (.invokevirtual 259, 3) ∧ lnkB 10 false 88 (.invokevirtual 259, 3, 37, 0, 0, 0) = true := by decide +kernel
theorem ck_78_91 : decode prog_1_method_21_code 91 = .ok (.ireturn, 1) ∧ lnkB 10 false 91 (.ireturn, 1, 0, 0, 0, 0) = true := by decide +kernel
theorem ck_78_99 : decode prog_1_method_21_code 99 = .ok (.ireturn, 1) ∧ lnkB 10 false 99 (.ireturn, 1, 0, 0, 0, 0) = true := by decide +kernel
theorem ck_78_105 : decode prog_1_method_21_code 105 = .ok (.invokestatic 86, 3) ∧ lnkB 10 false 105 (.invokestatic 86, 3, 57, 0, 0, 0) = true := by decide +kernel
theorem ck_78_108 : decode prog_1_method_21_code 108 = .ok (.ifCond .eq 18, 3) ∧ lnkB 10 false 108 (.ifCond .eq 18, 3, 126, 0, 0, 0) = true := by decide +kernel
theorem ca_78_122 : decode prog_1_method_21_code 122 = .ok (.iaload, 1) ∧ lnkB 10 false 122 (.iaload, 1, 0, 0, 0, 0) = true := by decide +kernel
theorem ck_78_123 : decode prog_1_method_21_code 123 = .ok (.goto 4, 3) ∧ lnkB 10 false 123 (.goto 4, 3, 127, 0, 0, 0) = true := by decide +kernel
theorem ck_78_127 : decode prog_1_method_21_code 127 = .ok (.ireturn, 1) ∧ lnkB 10 false 127 (.ireturn, 1, 0, 0, 0, 0) = true := by decide +kernel
abbrev RU_78 (d : Nat) (cp : Nat × Nat) (Post : Option Value → Sto → Prop) : PP := Runs (Ex d) prog_1_method_21_code 10 false 2 (some .int) none cp Post
theorem en_78 {d : Nat} {As : List Value} {S : Sto} {mc ms : Nat} {Post : Option Value → Sto → Prop} (hc : cats As ≤ 2) (h : RU_78 d (mc, ms) Post 0 (lv_args 0 As) [] S 0 0) : Ex (d + 1) 78 As S mc ms Post := ⟨by decide, hc, h⟩
def sg_79_0 : List RI := [(.aload_n 0, 1, 0, 0, 0, 0), (.invokespecial 3, 3, 0, 4, 0, 0), (.aload_n 0, 1, 0, 0, 0, 0), (.iconst 5, 1, 0, 0, 0, 5), (.newarray .int, 2, 13, 0, 0, 0), (.putfield 9, 3, 11, 2, 2, 0), (.aload_n 0, 1, 0, 0, 0, 0), (.iconst 5, 1, 0, 0, 0, 5), (.newarray .int, 2, 13, 0, 0, 0), (.putfield 13, 3, 11, 3, 2, 0), (.aload_n 0, 1, 0, 0, 0, 0), (.iconst 5, 1, 0, 0, 0, 5), (.newarray .int, 2, 13, 0, 0, 0), (.putfield 16, 3, 11, 4, 2, 0), (.aload_n 0, 1, 0, 0, 0, 0), (.iconst 5, 1, 0, 0, 0, 5), (.newarray .int, 2, 13, 0, 0, 0), (.putfield 19, 3, 11, 5, 2, 0), (.aload_n 0, 1, 0, 0, 0, 0), (.iconst 5, 1, 0, 0, 0, 5), (.newarray .int, 2, 13, 0, 0, 0), (.putfield 22, 3, 11, 6, 2, 0), (.aload_n 0, 1, 0, 0, 0, 0), (.iconst 5, 1, 0, 0, 0, 5), (.newarray .int, 2, 13, 0, 0, 0), (.putfield 25, 3, 11, 7, 2, 0), (.aload_n 0, 1, 0, 0, 0, 0), (.iconst 5, 1, 0, 0, 0, 5), (.newarray .int, 2, 13, 0, 0, 0), (.putfield 28, 3, 11, 8, 2, 0), (.aload_n 0, 1, 0, 0, 0, 0), (.iconst 5, 1, 0, 0, 0, 5), (.newarray .int, 2, 13, 0, 0, 0), (.putfield 31, 3, 11, 9, 2, 0), (.aload_n 0, 1, 0, 0, 0, 0), (.bipush 20, 2, 0, 0, 0, 20), (.newarray .int, 2, 13, 0, 0, 0), (.putfield 34, 3, 11, 11, 2, 0), (.aload_n 0, 1, 0, 0, 0, 0), (.bipush 20, 2, 0, 0, 0, 20), (.newarray .int, 2, 13, 0, 0, 0), (.putfield 37, 3, 11, 12, 2, 0), (.aload_n 0, 1, 0, 0, 0, 0), (.bipush 20, 2, 0, 0, 0, 20), (.newarray .int, 2, 13, 0, 0, 0), (.putfield 40, 3, 11, 13, 2, 0), (.aload_n 0, 1, 0, 0, 0, 0), (.bipush 6, 2, 0, 0, 0, 6), (.newarray .int, 2, 13, 0, 0, 0), (.putfield 43, 3, 11, 14, 2, 0), (.aload_n 0, 1, 0, 0, 0, 0), (.bipush 6, 2, 0, 0, 0, 6), (.newarray .int, 2, 13, 0, 0, 0), (.putfield 46, 3, 11, 15, 2, 0), (.aload_n 0, 1, 0, 0, 0, 0), (.bipush 6, 2, 0, 0, 0, 6), (.newarray .int, 2, 13, 0, 0, 0), (.putfield 49, 3, 11, 16, 2, 0), (.aload_n 0, 1, 0, 0, 0, 0), (.bipush 24, 2, 0, 0, 0, 24), (.newarray .int, 2, 13, 0, 0, 0), (.putfield 52, 3, 11, 17, 2, 0), (.aload_n 0, 1, 0, 0, 0, 0), (.bipush 24, 2, 0, 0, 0, 24), (.newarray .int, 2, 13, 0, 0, 0), (.putfield 55, 3, 11, 18, 2, 0), (.aload_n 0, 1, 0, 0, 0, 0), (.bipush 24, 2, 0, 0, 0, 24), (.newarray .int, 2, 13, 0, 0, 0), (.putfield 58, 3, 11, 19, 2, 0), (.aload_n 0, 1, 0, 0, 0, 0), (.bipush 24, 2, 0, 0, 0, 24), (.newarray .boolean, 2, 15, 0, 0, 0), (.putfield 61, 3, 11, 20, 2, 0), (.aload_n 0, 1, 0, 0, 0, 0), (.sipush 192, 3, 0, 0, 0, 192), (.newarray .boolean, 2, 15, 0, 0, 0), (.putfield 65, 3, 11, 21, 2, 0), (.aload_n 0, 1, 0, 0, 0, 0), (.sipush 768, 3, 0, 0, 0, 768), (.newarray .int, 2, 13, 0, 0, 0), (.putfield 68, 3, 11, 22, 2, 0), (.aload_n 0, 1, 0, 0, 0, 0), (.sipush 768, 3, 0, 0, 0, 768), (.newarray .int, 2, 13, 0, 0, 0), (.putfield 71, 3, 11, 23, 2, 0), (.aload_n 0, 1, 0, 0, 0, 0), (.sipush 768, 3, 0, 0, 0, 768), (.newarray .int, 2, 13, 0, 0, 0), (.putfield 74, 3, 11, 24, 2, 0), (.aload_n 0, 1, 0, 0, 0, 0), (.sipush 768, 3, 0, 0, 0, 768), (.newarray .int, 2, 13, 0, 0, 0), (.putfield 77, 3, 11, 25, 2, 0), (.aload_n 0, 1, 0, 0, 0, 0), (.sipush 192, 3, 0, 0, 0, 192), (.newarray .int, 2, 13, 0, 0, 0), (.putfield 80, 3, 11, 26, 2, 0), (.aload_n 0, 1, 0, 0, 0, 0), (.iconst 4, 1, 0, 0, 0, 4), (.newarray .int, 2, 13, 0, 0, 0), (.putfield 83, 3, 11, 27, 2, 0), (.aload_n 0, 1, 0, 0, 0, 0), (.iconst 4, 1, 0, 0, 0, 4), (.newarray .int, 2, 13, 0, 0, 0), (.putfield 86, 3, 11, 28, 2, 0), (.aload_n 0, 1, 0, 0, 0, 0), (.iconst 4, 1, 0, 0, 0, 4), (.newarray .int, 2, 13, 0, 0, 0), (.putfield 89, 3, 11, 29, 2, 0), (.aload_n 0, 1, 0, 0, 0, 0), (.iconst 4, 1, 0, 0, 0, 4), (.newarray .int, 2, 13, 0, 0, 0), (.putfield 92, 3, 11, 30, 2, 0), (.aload_n 0, 1, 0, 0, 0, 0), (.sipush 200, 3, 0, 0, 0, 200), (.newarray .byte, 2, 12, 0, 0, 0), (.putfield 95, 3, 11, 31, 2, 0), (.aload_n 0, 1, 0, 0, 0, 0), (.bipush 20, 2, 0, 0, 0, 20), (.newarray .int, 2, 13, 0, 0, 0), (.putfield 99, 3, 11, 36, 2, 0), (.aload_n 0, 1, 0, 0, 0, 0), (.bipush 20, 2, 0, 0, 0, 20), (.newarray .int, 2, 13, 0, 0, 0), (.putfield 102, 3, 11, 37, 2, 0), (.aload_n 0, 1, 0, 0, 0, 0), (.bipush 20, 2, 0, 0, 0, 20), (.newarray .int, 2, 13, 0, 0, 0), (.putfield 105, 3, 11, 38, 2, 0), (.aload_n 0, 1, 0, 0, 0, 0), (.bipush 120, 2, 0, 0, 0, 120), (.newarray .int, 2, 13, 0, 0, 0), (.putfield 108, 3, 11, 39, 2, 0), (.aload_n 0, 1, 0, 0, 0, 0), (.bipush 120, 2, 0, 0, 0, 120), (.newarray .int, 2, 13, 0, 0, 0), (.putfield 111, 3, 11, 40, 2, 0), (.aload_n 0, 1, 0, 0, 0, 0), (.bipush 20, 2, 0, 0, 0, 20), (.newarray .long, 2, 14, 0, 0, 0), (.putfield 114, 3, 11, 41, 2, 0), (.aload_n 0, 1, 0, 0, 0, 0), (.iconst 5, 1, 0, 0, 0, 5), (.newarray .int, 2, 13, 0, 0, 0), (.putfield 118, 3, 11, 42, 2, 0), (.aload_n 0, 1, 0, 0, 0, 0), (.sipush 192, 3, 0, 0, 0, 192), (.newarray .int, 2, 13, 0, 0, 0), (.putfield 121, 3, 11, 44, 2, 0), (.aload_n 0, 1, 0, 0, 0, 0), (.sipush 192, 3, 0, 0, 0, 192), (.newarray .int, 2, 13, 0, 0, 0), (.putfield 124, 3, 11, 45, 2, 0), (.aload_n 0, 1, 0, 0, 0, 0), (.sipush 3840, 3, 0, 0, 0, 3840), (.newarray .boolean, 2, 15, 0, 0, 0), (.putfield 127, 3, 11, 46, 2, 0), (.aload_n 0, 1, 0, 0, 0, 0), (.sipush 192, 3, 0, 0, 0, 192), (.newarray .int, 2, 13, 0, 0, 0), (.putfield 130, 3, 11, 48, 2, 0), (.aload_n 0, 1, 0, 0, 0, 0), (.sipush 192, 3, 0, 0, 0, 192), (.newarray .int, 2, 13, 0, 0, 0), (.putfield 133, 3, 11, 52, 2, 0), (.aload_n 0, 1, 0, 0, 0, 0), (.sipush 192, 3, 0, 0, 0, 192), (.newarray .int, 2, 13, 0, 0, 0), (.putfield 136, 3, 11, 53, 2, 0), (.aload_n 0, 1, 0, 0, 0, 0), (.sipush 192, 3, 0, 0, 0, 192), (.newarray .int, 2, 13, 0, 0, 0), (.putfield 139, 3, 11, 54, 2, 0), (.aload_n 0, 1, 0, 0, 0, 0), (.sipush 192, 3, 0, 0, 0, 192), (.newarray .int, 2, 13, 0, 0, 0), (.putfield 142, 3, 11, 55, 2, 0), (.aload_n 0, 1, 0, 0, 0, 0), (.sipush 192, 3, 0, 0, 0, 192), (.newarray .int, 2, 13, 0, 0, 0), (.putfield 145, 3, 11, 56, 2, 0), (.aload_n 0, 1, 0, 0, 0, 0), (.sipush 1536, 3, 0, 0, 0, 1536), (.newarray .int, 2, 13, 0, 0, 0), (.putfield 148, 3, 11, 57, 2, 0), (.aload_n 0, 1, 0, 0, 0, 0), (.iconst (-1), 1, 0, 0, 0, -1), (.putfield 151, 3, 11, 58, 0, 0), (.aload_n 0, 1, 0, 0, 0, 0), (.ldc 155, 2, 0, 0, 0, 60000), (.newarray .int, 2, 13, 0, 0, 0), (.putfield 156, 3, 11, 61, 2, 0), (.iconst 0, 1, 0, 0, 0, 0), (.istore_n 1, 1, 0, 0, 0, 0)]
theorem sk_79_0 : segB 11 true prog_13_method_1_code 0 sg_79_0 = true := by decide +kernel
def sg_79_391 : List RI := [(.iload_n 1, 1, 0, 0, 0, 0), (.iconst 5, 1, 0, 0, 0, 5)]
theorem sk_79_391 : segB 11 true prog_13_method_1_code 391 sg_79_391 = true := by decide +kernel
def sg_79_396 : List RI := [(.aload_n 0, 1, 0, 0, 0, 0), (.getfield 9, 3, 11, 2, 2, 0), (.iload_n 1, 1, 0, 0, 0, 0), (.iconst 1, 1, 0, 0, 0, 1)]
theorem sk_79_396 : segB 11 true prog_13_method_1_code 396 sg_79_396 = true := by decide +kernel
def sg_79_403 : List RI := [(.aload_n 0, 1, 0, 0, 0, 0), (.getfield 13, 3, 11, 3, 2, 0), (.iload_n 1, 1, 0, 0, 0, 0), (.bipush 8, 2, 0, 0, 0, 8)]
theorem sk_79_403 : segB 11 true prog_13_method_1_code 403 sg_79_403 = true := by decide +kernel
def sg_79_411 : List RI := [(.aload_n 0, 1, 0, 0, 0, 0), (.getfield 16, 3, 11, 4, 2, 0), (.iload_n 1, 1, 0, 0, 0, 0), (.bipush 8, 2, 0, 0, 0, 8)]
theorem sk_79_411 : segB 11 true prog_13_method_1_code 411 sg_79_411 = true := by decide +kernel
def sg_79_419 : List RI := [(.aload_n 0, 1, 0, 0, 0, 0), (.getfield 22, 3, 11, 6, 2, 0), (.iload_n 1, 1, 0, 0, 0, 0), (.bipush 10, 2, 0, 0, 0, 10)]
theorem sk_79_419 : segB 11 true prog_13_method_1_code 419 sg_79_419 = true := by decide +kernel
def sg_79_427 : List RI := [(.aload_n 0, 1, 0, 0, 0, 0), (.getfield 28, 3, 11, 8, 2, 0), (.iload_n 1, 1, 0, 0, 0, 0), (.iconst (-1), 1, 0, 0, 0, -1)]
theorem sk_79_427 : segB 11 true prog_13_method_1_code 427 sg_79_427 = true := by decide +kernel
def sg_79_434 : List RI := [(.aload_n 0, 1, 0, 0, 0, 0), (.getfield 31, 3, 11, 9, 2, 0), (.iload_n 1, 1, 0, 0, 0, 0), (.iconst (-1), 1, 0, 0, 0, -1)]
theorem sk_79_434 : segB 11 true prog_13_method_1_code 434 sg_79_434 = true := by decide +kernel
def sg_79_441 : List RI := [(.iinc 1 1, 3, 0, 0, 0, 1)]
theorem sk_79_441 : segB 11 true prog_13_method_1_code 441 sg_79_441 = true := by decide +kernel
def sg_79_447 : List RI := [(.iconst 0, 1, 0, 0, 0, 0), (.istore_n 1, 1, 0, 0, 0, 0)]
theorem sk_79_447 : segB 11 true prog_13_method_1_code 447 sg_79_447 = true := by decide +kernel
def sg_79_449 : List RI := [(.iload_n 1, 1, 0, 0, 0, 0), (.bipush 6, 2, 0, 0, 0, 6)]
theorem sk_79_449 : segB 11 true prog_13_method_1_code 449 sg_79_449 = true := by decide +kernel
def sg_79_455 : List RI := [(.aload_n 0, 1, 0, 0, 0, 0), (.getfield 46, 3, 11, 15, 2, 0), (.iload_n 1, 1, 0, 0, 0, 0), (.iconst 1, 1, 0, 0, 0, 1)]
theorem sk_79_455 : segB 11 true prog_13_method_1_code 455 sg_79_455 = true := by decide +kernel
def sg_79_462 : List RI := [(.iinc 1 1, 3, 0, 0, 0, 1)]
theorem sk_79_462 : segB 11 true prog_13_method_1_code 462 sg_79_462 = true := by decide +kernel
def sg_79_468 : List RI := [(.iconst 0, 1, 0, 0, 0, 0), (.istore_n 1, 1, 0, 0, 0, 0)]
theorem sk_79_468 : segB 11 true prog_13_method_1_code 468 sg_79_468 = true := by decide +kernel
def sg_79_470 : List RI := [(.iload_n 1, 1, 0, 0, 0, 0), (.bipush 24, 2, 0, 0, 0, 24)]
theorem sk_79_470 : segB 11 true prog_13_method_1_code 470 sg_79_470 = true := by decide +kernel
def sg_79_476 : List RI := [(.aload_n 0, 1, 0, 0, 0, 0), (.getfield 58, 3, 11, 19, 2, 0), (.iload_n 1, 1, 0, 0, 0, 0), (.iconst 5, 1, 0, 0, 0, 5)]
theorem sk_79_476 : segB 11 true prog_13_method_1_code 476 sg_79_476 = true := by decide +kernel
def sg_79_483 : List RI := [(.iinc 1 1, 3, 0, 0, 0, 1)]
theorem sk_79_483 : segB 11 true prog_13_method_1_code 483 sg_79_483 = true := by decide +kernel
def sg_79_489 : List RI := [(.iconst 0, 1, 0, 0, 0, 0), (.istore_n 1, 1, 0, 0, 0, 0)]
theorem sk_79_489 : segB 11 true prog_13_method_1_code 489 sg_79_489 = true := by decide +kernel
def sg_79_491 : List RI := [(.iload_n 1, 1, 0, 0, 0, 0), (.sipush 768, 3, 0, 0, 0, 768)]
theorem sk_79_491 : segB 11 true prog_13_method_1_code 491 sg_79_491 = true := by decide +kernel
def sg_79_498 : List RI := [(.aload_n 0, 1, 0, 0, 0, 0), (.getfield 71, 3, 11, 23, 2, 0), (.iload_n 1, 1, 0, 0, 0, 0), (.iconst (-1), 1, 0, 0, 0, -1)]
theorem sk_79_498 : segB 11 true prog_13_method_1_code 498 sg_79_498 = true := by decide +kernel
def sg_79_505 : List RI := [(.iinc 1 1, 3, 0, 0, 0, 1)]
theorem sk_79_505 : segB 11 true prog_13_method_1_code 505 sg_79_505 = true := by decide +kernel
def sg_79_511 : List RI := [(.iconst 0, 1, 0, 0, 0, 0), (.istore_n 1, 1, 0, 0, 0, 0)]
theorem sk_79_511 : segB 11 true prog_13_method_1_code 511 sg_79_511 = true := by decide +kernel
def sg_79_513 : List RI := [(.iload_n 1, 1, 0, 0, 0, 0), (.sipush 192, 3, 0, 0, 0, 192)]
theorem sk_79_513 : segB 11 true prog_13_method_1_code 513 sg_79_513 = true := by decide +kernel
def sg_79_520 : List RI := [(.aload_n 0, 1, 0, 0, 0, 0), (.getfield 80, 3, 11, 26, 2, 0), (.iload_n 1, 1, 0, 0, 0, 0), (.iconst (-1), 1, 0, 0, 0, -1)]
theorem sk_79_520 : segB 11 true prog_13_method_1_code 520 sg_79_520 = true := by decide +kernel
def sg_79_527 : List RI := [(.iinc 1 1, 3, 0, 0, 0, 1)]
theorem sk_79_527 : segB 11 true prog_13_method_1_code 527 sg_79_527 = true := by decide +kernel
def sg_79_533 : List RI := [(.iconst 0, 1, 0, 0, 0, 0), (.istore_n 1, 1, 0, 0, 0, 0)]
theorem sk_79_533 : segB 11 true prog_13_method_1_code 533 sg_79_533 = true := by decide +kernel
def sg_79_535 : List RI := [(.iload_n 1, 1, 0, 0, 0, 0), (.iconst 4, 1, 0, 0, 0, 4)]
theorem sk_79_535 : segB 11 true prog_13_method_1_code 535 sg_79_535 = true := by decide +kernel
def sg_79_540 : List RI := [(.aload_n 0, 1, 0, 0, 0, 0), (.getfield 83, 3, 11, 27, 2, 0), (.iload_n 1, 1, 0, 0, 0, 0), (.bipush 63, 2, 0, 0, 0, 63)]
theorem sk_79_540 : segB 11 true prog_13_method_1_code 540 sg_79_540 = true := by decide +kernel
def sg_79_548 : List RI := [(.aload_n 0, 1, 0, 0, 0, 0), (.getfield 86, 3, 11, 28, 2, 0), (.iload_n 1, 1, 0, 0, 0, 0), (.bipush 100, 2, 0, 0, 0, 100)]
theorem sk_79_548 : segB 11 true prog_13_method_1_code 548 sg_79_548 = true := by decide +kernel
def sg_79_556 : List RI := [(.aload_n 0, 1, 0, 0, 0, 0), (.getfield 89, 3, 11, 29, 2, 0), (.iload_n 1, 1, 0, 0, 0, 0), (.bipush 10, 2, 0, 0, 0, 10)]
theorem sk_79_556 : segB 11 true prog_13_method_1_code 556 sg_79_556 = true := by decide +kernel
def sg_79_564 : List RI := [(.aload_n 0, 1, 0, 0, 0, 0), (.getfield 92, 3, 11, 30, 2, 0), (.iload_n 1, 1, 0, 0, 0, 0), (.bipush 100, 2, 0, 0, 0, 100)]
theorem sk_79_564 : segB 11 true prog_13_method_1_code 564 sg_79_564 = true := by decide +kernel
def sg_79_572 : List RI := [(.iinc 1 1, 3, 0, 0, 0, 1)]
theorem sk_79_572 : segB 11 true prog_13_method_1_code 572 sg_79_572 = true := by decide +kernel
theorem ck_79_393 : decode prog_13_method_1_code 393 = .ok (.if_icmp .ge 54, 3) ∧ lnkB 11 true 393 (.if_icmp .ge 54, 3, 447, 0, 0, 0) = true := by decide +kernel
theorem ca_79_402 : decode prog_13_method_1_code 402 = .ok (.iastore, 1) ∧ lnkB 11 true 402 (.iastore, 1, 0, 0, 0, 0) = true := by decide +kernel
theorem ca_79_410 : decode prog_13_method_1_code 410 = .ok (.iastore, 1) ∧ lnkB 11 true 410 (.iastore, 1, 0, 0, 0, 0) = true := by decide +kernel
theorem ca_79_418 : decode prog_13_method_1_code 418 = .ok (.iastore, 1) ∧ lnkB 11 true 418 (.iastore, 1, 0, 0, 0, 0) = true := by decide +kernel
theorem ca_79_426 : decode prog_13_method_1_code 426 = .ok (.iastore, 1) ∧ lnkB 11 true 426 (.iastore, 1, 0, 0, 0, 0) = true := by decide +kernel
theorem ca_79_433 : decode prog_13_method_1_code 433 = .ok (.iastore, 1) ∧ lnkB 11 true 433 (.iastore, 1, 0, 0, 0, 0) = true := by decide +kernel
theorem ca_79_440 : decode prog_13_method_1_code 440 = .ok (.iastore, 1) ∧ lnkB 11 true 440 (.iastore, 1, 0, 0, 0, 0) = true := by decide +kernel
theorem ck_79_444 : decode prog_13_method_1_code 444 = .ok (.goto (-53), 3) ∧ lnkB 11 true 444 (.goto (-53), 3, 391, 0, 0, 0) = true := by decide +kernel
theorem ck_79_452 : decode prog_13_method_1_code 452 = .ok (.if_icmp .ge 16, 3) ∧ lnkB 11 true 452 (.if_icmp .ge 16, 3, 468, 0, 0, 0) = true := by decide +kernel
theorem ca_79_461 : decode prog_13_method_1_code 461 = .ok (.iastore, 1) ∧ lnkB 11 true 461 (.iastore, 1, 0, 0, 0, 0) = true := by decide +kernel
theorem ck_79_465 : decode prog_13_method_1_code 465 = .ok (.goto (-16), 3) ∧ lnkB 11 true 465 (.goto (-16), 3, 449, 0, 0, 0) = true := by decide +kernel
theorem ck_79_473 : decode prog_13_method_1_code 473 = .ok (.if_icmp .ge 16, 3) ∧ lnkB 11 true 473 (.if_icmp .ge 16, 3, 489, 0, 0, 0) = true := by decide +kernel
theorem ca_79_482 : decode prog_13_method_1_code 482 = .ok (.iastore, 1) ∧ lnkB 11 true 482 (.iastore, 1, 0, 0, 0, 0) = true := by decide +kernel
theorem ck_79_486 : decode prog_13_method_1_code 486 = .ok (.goto (-16), 3) ∧ lnkB 11 true 486 (.goto (-16), 3, 470, 0, 0, 0) = true := by decide +kernel
theorem ck_79_495 : decode prog_13_method_1_code 495 = .ok (.if_icmp .ge 16, 3) ∧ lnkB 11 true 495 (.if_icmp .ge 16, 3, 511, 0, 0, 0) = true := by decide +kernel
theorem ca_79_504 : decode prog_13_method_1_code 504 = .ok (.iastore, 1) ∧ lnkB 11 true 504 (.iastore, 1, 0, 0, 0, 0) = true := by decide +kernel
theorem ck_79_508 : decode prog_13_method_1_code 508 = .ok (.goto (-17), 3) ∧ lnkB 11 true 508 (.goto (-17), 3, 491, 0, 0, 0) = true := by decide +kernel
theorem ck_79_517 : decode prog_13_method_1_code 517 = .ok (.if_icmp .ge 16, 3) ∧ lnkB 11 true 517 (.if_icmp .ge 16, 3, 533, 0, 0, 0) = true := by decide +kernel
theorem ca_79_526 : decode prog_13_method_1_code 526 = .ok (.iastore, 1) ∧ lnkB 11 true 526 (.iastore, 1, 0, 0, 0, 0) = true := by decide +kernel
theorem ck_79_530 : decode prog_13_method_1_code 530 = .ok (.goto (-17), 3) ∧ lnkB 11 true 530 (.goto (-17), 3, 513, 0, 0, 0) = true := by decide +kernel
theorem ck_79_537 : decode prog_13_method_1_code 537 = .ok (.if_icmp .ge 41, 3) ∧ lnkB 11 true 537 (.if_icmp .ge 41, 3, 578, 0, 0, 0) = true := by decide +kernel
theorem ca_79_547 : decode prog_13_method_1_code 547 = .ok (.iastore, 1) ∧ lnkB 11 true 547 (.iastore, 1, 0, 0, 0, 0) = true := by decide +kernel
theorem ca_79_555 : decode prog_13_method_1_code 555 = .ok (.iastore, 1) ∧ lnkB 11 true 555 (.iastore, 1, 0, 0, 0, 0) = true := by decide +kernel
theorem ca_79_563 : decode prog_13_method_1_code 563 = .ok (.iastore, 1) ∧ lnkB 11 true 563 (.iastore, 1, 0, 0, 0, 0) = true := by decide +kernel
theorem ca_79_571 : decode prog_13_method_1_code 571 = .ok (.iastore, 1) ∧ lnkB 11 true 571 (.iastore, 1, 0, 0, 0, 0) = true := by decide +kernel
theorem ck_79_575 : decode prog_13_method_1_code 575 = .ok (.goto (-40), 3) ∧ lnkB 11 true 575 (.goto (-40), 3, 535, 0, 0, 0) = true := by decide +kernel
theorem ck_79_578 : decode prog_13_method_1_code 578 = .ok (.return_, 1) ∧ lnkB 11 true 578 (.return_, 1, 0, 0, 0, 0) = true := by decide +kernel
abbrev RU_79 (d : Nat) (cp : Nat × Nat) (Post : Option Value → Sto → Prop) : PP := Runs (Ex d) prog_13_method_1_code 11 true 2 none none cp Post
theorem en_79 {d : Nat} {As : List Value} {S : Sto} {mc ms : Nat} {Post : Option Value → Sto → Prop} (hc : cats As ≤ 2) (h : RU_79 d (mc, ms) Post 0 (lv_args 0 As) [] S 0 0) : Ex (d + 1) 79 As S mc ms Post := ⟨by decide, hc, h⟩
