/-! ===== the code: segments, control instructions, entries of methods 80 to 126 ===== -/
def sg_80_0 : List RI := [(.iload_n 1, 1, 0, 0, 0, 0), (.iconst 0, 1, 0, 0, 0, 0), (.iconst 4, 1, 0, 0, 0, 4)]
theorem sk_80_0 : segB 11 false prog_13_method_4_code 0 sg_80_0 = true := by decide +kernel
def sg_80_9 : List RI := [(.iload_n 2, 1, 0, 0, 0, 0), (.iconst 1, 1, 0, 0, 0, 1), (.bipush 9, 2, 0, 0, 0, 9)]
theorem sk_80_9 : segB 11 false prog_13_method_4_code 9 sg_80_9 = true := by decide +kernel
def sg_80_19 : List RI := [(.iload_n 3, 1, 0, 0, 0, 0), (.iconst 1, 1, 0, 0, 0, 1), (.bipush 8, 2, 0, 0, 0, 8)]
theorem sk_80_19 : segB 11 false prog_13_method_4_code 19 sg_80_19 = true := by decide +kernel
def sg_80_29 : List RI := [(.iload 4, 2, 0, 0, 0, 0), (.iconst 1, 1, 0, 0, 0, 1), (.bipush 8, 2, 0, 0, 0, 8)]
theorem sk_80_29 : segB 11 false prog_13_method_4_code 29 sg_80_29 = true := by decide +kernel
def sg_80_40 : List RI := [(.iload 5, 2, 0, 0, 0, 0), (.iconst 0, 1, 0, 0, 0, 0), (.bipush 9, 2, 0, 0, 0, 9)]
theorem sk_80_40 : segB 11 false prog_13_method_4_code 40 sg_80_40 = true := by decide +kernel
def sg_80_51 : List RI := [(.iload 6, 2, 0, 0, 0, 0), (.iconst 1, 1, 0, 0, 0, 1), (.bipush 99, 2, 0, 0, 0, 99)]
theorem sk_80_51 : segB 11 false prog_13_method_4_code 51 sg_80_51 = true := by decide +kernel
def sg_80_62 : List RI := [(.iconst 0, 1, 0, 0, 0, 0)]
theorem sk_80_62 : segB 11 false prog_13_method_4_code 62 sg_80_62 = true := by decide +kernel
def sg_80_64 : List RI := [(.aload_n 0, 1, 0, 0, 0, 0), (.getfield 9, 3, 11, 2, 2, 0), (.iload_n 1, 1, 0, 0, 0, 0), (.iload_n 2, 1, 0, 0, 0, 0)]
theorem sk_80_64 : segB 11 false prog_13_method_4_code 64 sg_80_64 = true := by decide +kernel
def sg_80_71 : List RI := [(.aload_n 0, 1, 0, 0, 0, 0), (.getfield 13, 3, 11, 3, 2, 0), (.iload_n 1, 1, 0, 0, 0, 0), (.iload_n 3, 1, 0, 0, 0, 0)]
theorem sk_80_71 : segB 11 false prog_13_method_4_code 71 sg_80_71 = true := by decide +kernel
def sg_80_78 : List RI := [(.aload_n 0, 1, 0, 0, 0, 0), (.getfield 16, 3, 11, 4, 2, 0), (.iload_n 1, 1, 0, 0, 0, 0), (.iload 4, 2, 0, 0, 0, 0)]
theorem sk_80_78 : segB 11 false prog_13_method_4_code 78 sg_80_78 = true := by decide +kernel
def sg_80_86 : List RI := [(.aload_n 0, 1, 0, 0, 0, 0), (.getfield 19, 3, 11, 5, 2, 0), (.iload_n 1, 1, 0, 0, 0, 0), (.iload 5, 2, 0, 0, 0, 0)]
theorem sk_80_86 : segB 11 false prog_13_method_4_code 86 sg_80_86 = true := by decide +kernel
def sg_80_94 : List RI := [(.aload_n 0, 1, 0, 0, 0, 0), (.getfield 22, 3, 11, 6, 2, 0), (.iload_n 1, 1, 0, 0, 0, 0), (.iload 6, 2, 0, 0, 0, 0)]
theorem sk_80_94 : segB 11 false prog_13_method_4_code 94 sg_80_94 = true := by decide +kernel
def sg_80_102 : List RI := [(.aload_n 0, 1, 0, 0, 0, 0), (.getfield 25, 3, 11, 7, 2, 0), (.iload_n 1, 1, 0, 0, 0, 0), (.iconst 0, 1, 0, 0, 0, 0)]
theorem sk_80_102 : segB 11 false prog_13_method_4_code 102 sg_80_102 = true := by decide +kernel
def sg_80_109 : List RI := [(.aload_n 0, 1, 0, 0, 0, 0), (.getfield 28, 3, 11, 8, 2, 0), (.iload_n 1, 1, 0, 0, 0, 0), (.iconst (-1), 1, 0, 0, 0, -1)]
theorem sk_80_109 : segB 11 false prog_13_method_4_code 109 sg_80_109 = true := by decide +kernel
def sg_80_116 : List RI := [(.iconst 1, 1, 0, 0, 0, 1)]
theorem sk_80_116 : segB 11 false prog_13_method_4_code 116 sg_80_116 = true := by decide +kernel
theorem ck_80_3 : decode prog_13_method_4_code 3 = .ok (.invokestatic 162, 3) ∧ lnkB 11 false 3 (.invokestatic 162, 3, 81, 0, 0, 0) = true := by decide +kernel
theorem ck_80_6 : decode prog_13_method_4_code 6 = .ok (.ifCond .eq 56, 3) ∧ lnkB 11 false 6 (.ifCond .eq 56, 3, 62, 0, 0, 0) = true := by decide +kernel
theorem ck_80_13 : decode prog_13_method_4_code 13 = .ok (.invokestatic 162, 3) ∧ lnkB 11 false 13 (.invokestatic 162, 3, 81, 0, 0, 0) = true := by decide +kernel
theorem ck_80_16 : decode prog_13_method_4_code 16 = .ok (.ifCond .eq 46, 3) ∧ lnkB 11 false 16 (.ifCond .eq 46, 3, 62, 0, 0, 0) = true := by decide +kernel
theorem ck_80_23 : decode prog_13_method_4_code 23 = .ok (.invokestatic 162, 3) ∧ lnkB 11 false 23 (.invokestatic 162, 3, 81, 0, 0, 0) = true := by decide +kernel
theorem ck_80_26 : decode prog_13_method_4_code 26 = .ok (.ifCond .eq 36, 3) ∧ lnkB 11 false 26 (.ifCond .eq 36, 3, 62, 0, 0, 0) = true := by decide +kernel
theorem ck_80_34 : decode prog_13_method_4_code 34 = .ok (.invokestatic 162, 3) ∧ lnkB 11 false 34 (.invokestatic 162, 3, 81, 0, 0, 0) = true := by decide +kernel
theorem ck_80_37 : decode prog_13_method_4_code 37 = .ok (.ifCond .eq 25, 3) ∧ lnkB 11 false 37 (.ifCond .eq 25, 3, 62, 0, 0, 0) = true := by decide +kernel
theorem ck_80_45 : decode prog_13_method_4_code 45 = .ok (.invokestatic 162, 3) ∧ lnkB 11 false 45 (.invokestatic 162, 3, 81, 0, 0, 0) = true := by decide +kernel
theorem ck_80_48 : decode prog_13_method_4_code 48 = .ok (.ifCond .eq 14, 3) ∧ lnkB 11 false 48 (.ifCond .eq 14, 3, 62, 0, 0, 0) = true := by decide +kernel
theorem ck_80_56 : decode prog_13_method_4_code 56 = .ok (.invokestatic 162, 3) ∧ lnkB 11 false 56 (.invokestatic 162, 3, 81, 0, 0, 0) = true := by decide +kernel
theorem ck_80_59 : decode prog_13_method_4_code 59 = .ok (.ifCond .ne 5, 3) ∧ lnkB 11 false 59 (.ifCond .ne 5, 3, 64, 0, 0, 0) = true := by decide +kernel
theorem ck_80_63 : decode prog_13_method_4_code 63 = .ok (.ireturn, 1) ∧ lnkB 11 false 63 (.ireturn, 1, 0, 0, 0, 0) = true := by decide +kernel
theorem ca_80_70 : decode prog_13_method_4_code 70 = .ok (.iastore, 1) ∧ lnkB 11 false 70 (.iastore, 1, 0, 0, 0, 0) = true := by decide +kernel
theorem ca_80_77 : decode prog_13_method_4_code 77 = .ok (.iastore, 1) ∧ lnkB 11 false 77 (.iastore, 1, 0, 0, 0, 0) = true := by decide +kernel
theorem ca_80_85 : decode prog_13_method_4_code 85 = .ok (.iastore, 1) ∧ lnkB 11 false 85 (.iastore, 1, 0, 0, 0, 0) = true := by decide +kernel
theorem ca_80_93 : decode prog_13_method_4_code 93 = .ok (.iastore, 1) ∧ lnkB 11 false 93 (.iastore, 1, 0, 0, 0, 0) = true := by decide +kernel
theorem ca_80_101 : decode prog_13_method_4_code 101 = .ok (.iastore, 1) ∧ lnkB 11 false 101 (.iastore, 1, 0, 0, 0, 0) = true := by decide +kernel
theorem ca_80_108 : decode prog_13_method_4_code 108 = .ok (.iastore, 1) ∧ lnkB 11 false 108 (.iastore, 1, 0, 0, 0, 0) = true := by decide +kernel
theorem ca_80_115 : decode prog_13_method_4_code 115 = .ok (.iastore, 1) ∧ lnkB 11 false 115 (.iastore, 1, 0, 0, 0, 0) = true := by decide +kernel
theorem ck_80_117 : decode prog_13_method_4_code 117 = .ok (.ireturn, 1) ∧ lnkB 11 false 117 (.ireturn, 1, 0, 0, 0, 0) = true := by decide +kernel
abbrev RU_80 (d : Nat) (cp : Nat × Nat) (Post : Option Value → Sto → Prop) : PP := Runs (Ex d) prog_13_method_4_code 11 false 7 (some .boolean) none cp Post
theorem en_80 {d : Nat} {As : List Value} {S : Sto} {mc ms : Nat} {Post : Option Value → Sto → Prop} (hc : cats As ≤ 7) (h : RU_80 d (mc, ms) Post 0 (lv_args 0 As) [] S 0 0) : Ex (d + 1) 80 As S mc ms Post := ⟨by decide, hc, h⟩
def sg_81_0 : List RI := [(.iload_n 0, 1, 0, 0, 0, 0), (.iload_n 1, 1, 0, 0, 0, 0)]
theorem sk_81_0 : segB 11 false prog_13_method_3_code 0 sg_81_0 = true := by decide +kernel
def sg_81_5 : List RI := [(.iload_n 0, 1, 0, 0, 0, 0), (.iload_n 2, 1, 0, 0, 0, 0)]
theorem sk_81_5 : segB 11 false prog_13_method_3_code 5 sg_81_5 = true := by decide +kernel
def sg_81_10 : List RI := [(.iconst 1, 1, 0, 0, 0, 1)]
theorem sk_81_10 : segB 11 false prog_13_method_3_code 10 sg_81_10 = true := by decide +kernel
def sg_81_14 : List RI := [(.iconst 0, 1, 0, 0, 0, 0)]
theorem sk_81_14 : segB 11 false prog_13_method_3_code 14 sg_81_14 = true := by decide +kernel
theorem ck_81_2 : decode prog_13_method_3_code 2 = .ok (.if_icmp .lt 12, 3) ∧ lnkB 11 false 2 (.if_icmp .lt 12, 3, 14, 0, 0, 0) = true := by decide +kernel
theorem ck_81_7 : decode prog_13_method_3_code 7 = .ok (.if_icmp .gt 7, 3) ∧ lnkB 11 false 7 (.if_icmp .gt 7, 3, 14, 0, 0, 0) = true := by decide +kernel
theorem ck_81_11 : decode prog_13_method_3_code 11 = .ok (.goto 4, 3) ∧ lnkB 11 false 11 (.goto 4, 3, 15, 0, 0, 0) = true := by decide +kernel
theorem ck_81_15 : decode prog_13_method_3_code 15 = .ok (.ireturn, 1) ∧ lnkB 11 false 15 (.ireturn, 1, 0, 0, 0, 0) = true := by decide +kernel
abbrev RU_81 (d : Nat) (cp : Nat × Nat) (Post : Option Value → Sto → Prop) : PP := Runs (Ex d) prog_13_method_3_code 11 false 3 (some .boolean) none cp Post
theorem en_81 {d : Nat} {As : List Value} {S : Sto} {mc ms : Nat} {Post : Option Value → Sto → Prop} (hc : cats As ≤ 3) (h : RU_81 d (mc, ms) Post 0 (lv_args 0 As) [] S 0 0) : Ex (d + 1) 81 As S mc ms Post := ⟨by decide, hc, h⟩
def sg_82_0 : List RI := [(.aload_n 0, 1, 0, 0, 0, 0), (.getfield 166, 3, 11, 10, 0, 0), (.bipush 20, 2, 0, 0, 0, 20)]
theorem sk_82_0 : segB 11 false prog_13_method_5_code 0 sg_82_0 = true := by decide +kernel
def sg_82_9 : List RI := [(.iload_n 1, 1, 0, 0, 0, 0), (.iconst 0, 1, 0, 0, 0, 0), (.iconst 4, 1, 0, 0, 0, 4)]
theorem sk_82_9 : segB 11 false prog_13_method_5_code 9 sg_82_9 = true := by decide +kernel
def sg_82_18 : List RI := [(.iload_n 2, 1, 0, 0, 0, 0), (.iconst 0, 1, 0, 0, 0, 0), (.ldc 169, 2, 0, 0, 0, 100000)]
theorem sk_82_18 : segB 11 false prog_13_method_5_code 18 sg_82_18 = true := by decide +kernel
def sg_82_28 : List RI := [(.iload_n 3, 1, 0, 0, 0, 0), (.iload_n 2, 1, 0, 0, 0, 0), (.ldc 169, 2, 0, 0, 0, 100000)]
theorem sk_82_28 : segB 11 false prog_13_method_5_code 28 sg_82_28 = true := by decide +kernel
def sg_82_38 : List RI := [(.iconst (-1), 1, 0, 0, 0, -1)]
theorem sk_82_38 : segB 11 false prog_13_method_5_code 38 sg_82_38 = true := by decide +kernel
def sg_82_40 : List RI := [(.aload_n 0, 1, 0, 0, 0, 0), (.getfield 34, 3, 11, 11, 2, 0), (.aload_n 0, 1, 0, 0, 0, 0), (.getfield 166, 3, 11, 10, 0, 0), (.iload_n 1, 1, 0, 0, 0, 0)]
theorem sk_82_40 : segB 11 false prog_13_method_5_code 40 sg_82_40 = true := by decide +kernel
def sg_82_50 : List RI := [(.aload_n 0, 1, 0, 0, 0, 0), (.getfield 37, 3, 11, 12, 2, 0), (.aload_n 0, 1, 0, 0, 0, 0), (.getfield 166, 3, 11, 10, 0, 0), (.iload_n 2, 1, 0, 0, 0, 0)]
theorem sk_82_50 : segB 11 false prog_13_method_5_code 50 sg_82_50 = true := by decide +kernel
def sg_82_60 : List RI := [(.aload_n 0, 1, 0, 0, 0, 0), (.getfield 40, 3, 11, 13, 2, 0), (.aload_n 0, 1, 0, 0, 0, 0), (.getfield 166, 3, 11, 10, 0, 0), (.iload_n 3, 1, 0, 0, 0, 0)]
theorem sk_82_60 : segB 11 false prog_13_method_5_code 60 sg_82_60 = true := by decide +kernel
def sg_82_70 : List RI := [(.aload_n 0, 1, 0, 0, 0, 0), (.dup, 1, 0, 0, 0, 0), (.getfield 166, 3, 11, 10, 0, 0), (.iconst 1, 1, 0, 0, 0, 1), (.iadd, 1, 0, 0, 0, 0), (.putfield 166, 3, 11, 10, 0, 0), (.aload_n 0, 1, 0, 0, 0, 0), (.getfield 166, 3, 11, 10, 0, 0)]
theorem sk_82_70 : segB 11 false prog_13_method_5_code 70 sg_82_70 = true := by decide +kernel
theorem ck_82_6 : decode prog_13_method_5_code 6 = .ok (.if_icmp .eq 32, 3) ∧ lnkB 11 false 6 (.if_icmp .eq 32, 3, 38, 0, 0, 0) = true := by decide +kernel
theorem ck_82_12 : decode prog_13_method_5_code 12 = .ok (.invokestatic 162, 3) ∧ lnkB 11 false 12 (.invokestatic 162, 3, 81, 0, 0, 0) = true := by decide +kernel
theorem ck_82_15 : decode prog_13_method_5_code 15 = .ok (.ifCond .eq 23, 3) ∧ lnkB 11 false 15 (.ifCond .eq 23, 3, 38, 0, 0, 0) = true := by decide +kernel
theorem ck_82_22 : decode prog_13_method_5_code 22 = .ok (.invokestatic 162, 3) ∧ lnkB 11 false 22 (.invokestatic 162, 3, 81, 0, 0, 0) = true := by decide +kernel
theorem ck_82_25 : decode prog_13_method_5_code 25 = .ok (.ifCond .eq 13, 3) ∧ lnkB 11 false 25 (.ifCond .eq 13, 3, 38, 0, 0, 0) = true := by decide +kernel
theorem ck_82_32 : decode prog_13_method_5_code 32 = .ok (.invokestatic 162, 3) ∧ lnkB 11 false 32 (.invokestatic 162, 3, 81, 0, 0, 0) = true := by decide +kernel
theorem ck_82_35 : decode prog_13_method_5_code 35 = .ok (.ifCond .ne 5, 3) ∧ lnkB 11 false 35 (.ifCond .ne 5, 3, 40, 0, 0, 0) = true := by decide +kernel
theorem ck_82_39 : decode prog_13_method_5_code 39 = .ok (.ireturn, 1) ∧ lnkB 11 false 39 (.ireturn, 1, 0, 0, 0, 0) = true := by decide +kernel
theorem ca_82_49 : decode prog_13_method_5_code 49 = .ok (.iastore, 1) ∧ lnkB 11 false 49 (.iastore, 1, 0, 0, 0, 0) = true := by decide +kernel
theorem ca_82_59 : decode prog_13_method_5_code 59 = .ok (.iastore, 1) ∧ lnkB 11 false 59 (.iastore, 1, 0, 0, 0, 0) = true := by decide +kernel
theorem ca_82_69 : decode prog_13_method_5_code 69 = .ok (.iastore, 1) ∧ lnkB 11 false 69 (.iastore, 1, 0, 0, 0, 0) = true := by decide +kernel
theorem ck_82_84 : decode prog_13_method_5_code 84 = .ok (.ireturn, 1) ∧ lnkB 11 false 84 (.ireturn, 1, 0, 0, 0, 0) = true := by decide +kernel
abbrev RU_82 (d : Nat) (cp : Nat × Nat) (Post : Option Value → Sto → Prop) : PP := Runs (Ex d) prog_13_method_5_code 11 false 4 (some .int) none cp Post
theorem en_82 {d : Nat} {As : List Value} {S : Sto} {mc ms : Nat} {Post : Option Value → Sto → Prop} (hc : cats As ≤ 4) (h : RU_82 d (mc, ms) Post 0 (lv_args 0 As) [] S 0 0) : Ex (d + 1) 82 As S mc ms Post := ⟨by decide, hc, h⟩
def sg_83_0 : List RI := [(.iload_n 1, 1, 0, 0, 0, 0), (.iconst 0, 1, 0, 0, 0, 0), (.iconst 5, 1, 0, 0, 0, 5)]
theorem sk_83_0 : segB 11 false prog_13_method_7_code 0 sg_83_0 = true := by decide +kernel
def sg_83_9 : List RI := [(.iload_n 2, 1, 0, 0, 0, 0), (.iconst 0, 1, 0, 0, 0, 0), (.iconst 4, 1, 0, 0, 0, 4)]
theorem sk_83_9 : segB 11 false prog_13_method_7_code 9 sg_83_9 = true := by decide +kernel
def sg_83_18 : List RI := [(.iload_n 3, 1, 0, 0, 0, 0), (.iconst 1, 1, 0, 0, 0, 1), (.bipush 9, 2, 0, 0, 0, 9)]
theorem sk_83_18 : segB 11 false prog_13_method_7_code 18 sg_83_18 = true := by decide +kernel
def sg_83_28 : List RI := [(.iload 4, 2, 0, 0, 0, 0), (.iconst 0, 1, 0, 0, 0, 0), (.sipush 999, 3, 0, 0, 0, 999)]
theorem sk_83_28 : segB 11 false prog_13_method_7_code 28 sg_83_28 = true := by decide +kernel
def sg_83_40 : List RI := [(.iconst 0, 1, 0, 0, 0, 0)]
theorem sk_83_40 : segB 11 false prog_13_method_7_code 40 sg_83_40 = true := by decide +kernel
def sg_83_42 : List RI := [(.aload_n 0, 1, 0, 0, 0, 0), (.getfield 43, 3, 11, 14, 2, 0), (.iload_n 1, 1, 0, 0, 0, 0), (.iload_n 2, 1, 0, 0, 0, 0)]
theorem sk_83_42 : segB 11 false prog_13_method_7_code 42 sg_83_42 = true := by decide +kernel
def sg_83_49 : List RI := [(.aload_n 0, 1, 0, 0, 0, 0), (.getfield 46, 3, 11, 15, 2, 0), (.iload_n 1, 1, 0, 0, 0, 0), (.iload_n 3, 1, 0, 0, 0, 0)]
theorem sk_83_49 : segB 11 false prog_13_method_7_code 49 sg_83_49 = true := by decide +kernel
def sg_83_56 : List RI := [(.aload_n 0, 1, 0, 0, 0, 0), (.getfield 49, 3, 11, 16, 2, 0), (.iload_n 1, 1, 0, 0, 0, 0), (.iload 4, 2, 0, 0, 0, 0)]
theorem sk_83_56 : segB 11 false prog_13_method_7_code 56 sg_83_56 = true := by decide +kernel
def sg_83_64 : List RI := [(.iconst 0, 1, 0, 0, 0, 0), (.istore 5, 2, 0, 0, 0, 0)]
theorem sk_83_64 : segB 11 false prog_13_method_7_code 64 sg_83_64 = true := by decide +kernel
def sg_83_67 : List RI := [(.iload 5, 2, 0, 0, 0, 0), (.bipush 32, 2, 0, 0, 0, 32)]
theorem sk_83_67 : segB 11 false prog_13_method_7_code 67 sg_83_67 = true := by decide +kernel
def sg_83_74 : List RI := [(.aload_n 0, 1, 0, 0, 0, 0), (.getfield 80, 3, 11, 26, 2, 0), (.bipush 32, 2, 0, 0, 0, 32), (.iload_n 1, 1, 0, 0, 0, 0), (.imul, 1, 0, 0, 0, 0), (.iload 5, 2, 0, 0, 0, 0), (.iadd, 1, 0, 0, 0, 0), (.iconst (-1), 1, 0, 0, 0, -1)]
theorem sk_83_74 : segB 11 false prog_13_method_7_code 74 sg_83_74 = true := by decide +kernel
def sg_83_87 : List RI := [(.iinc 5 1, 3, 0, 0, 0, 1)]
theorem sk_83_87 : segB 11 false prog_13_method_7_code 87 sg_83_87 = true := by decide +kernel
def sg_83_93 : List RI := [(.iconst 1, 1, 0, 0, 0, 1)]
theorem sk_83_93 : segB 11 false prog_13_method_7_code 93 sg_83_93 = true := by decide +kernel
theorem ck_83_3 : decode prog_13_method_7_code 3 = .ok (.invokestatic 162, 3) ∧ lnkB 11 false 3 (.invokestatic 162, 3, 81, 0, 0, 0) = true := by decide +kernel
theorem ck_83_6 : decode prog_13_method_7_code 6 = .ok (.ifCond .eq 34, 3) ∧ lnkB 11 false 6 (.ifCond .eq 34, 3, 40, 0, 0, 0) = true := by decide +kernel
theorem ck_83_12 : decode prog_13_method_7_code 12 = .ok (.invokestatic 162, 3) ∧ lnkB 11 false 12 (.invokestatic 162, 3, 81, 0, 0, 0) = true := by decide +kernel
theorem ck_83_15 : decode prog_13_method_7_code 15 = .ok (.ifCond .eq 25, 3) ∧ lnkB 11 false 15 (.ifCond .eq 25, 3, 40, 0, 0, 0) = true := by decide +kernel
theorem ck_83_22 : decode prog_13_method_7_code 22 = .ok (.invokestatic 162, 3) ∧ lnkB 11 false 22 (.invokestatic 162, 3, 81, 0, 0, 0) = true := by decide +kernel
theorem ck_83_25 : decode prog_13_method_7_code 25 = .ok (.ifCond .eq 15, 3) ∧ lnkB 11 false 25 (.ifCond .eq 15, 3, 40, 0, 0, 0) = true := by decide +kernel
theorem ck_83_34 : decode prog_13_method_7_code 34 = .ok (.invokestatic 162, 3) ∧ lnkB 11 false 34 (.invokestatic 162, 3, 81, 0, 0, 0) = true := by decide +kernel
theorem ck_83_37 : decode prog_13_method_7_code 37 = .ok (.ifCond .ne 5, 3) ∧ lnkB 11 false 37 (.ifCond .ne 5, 3, 42, 0, 0, 0) = true := by decide +kernel
theorem ck_83_41 : decode prog_13_method_7_code 41 = .ok (.ireturn, 1) ∧ lnkB 11 false 41 (.ireturn, 1, 0, 0, 0, 0) = true := by decide +kernel
theorem ca_83_48 : decode prog_13_method_7_code 48 = .ok (.iastore, 1) ∧ lnkB 11 false 48 (.iastore, 1, 0, 0, 0, 0) = true := by decide +kernel
theorem ca_83_55 : decode prog_13_method_7_code 55 = .ok (.iastore, 1) ∧ lnkB 11 false 55 (.iastore, 1, 0, 0, 0, 0) = true := by decide +kernel
theorem ca_83_63 : decode prog_13_method_7_code 63 = .ok (.iastore, 1) ∧ lnkB 11 false 63 (.iastore, 1, 0, 0, 0, 0) = true := by decide +kernel
theorem ck_83_71 : decode prog_13_method_7_code 71 = .ok (.if_icmp .ge 22, 3) ∧ lnkB 11 false 71 (.if_icmp .ge 22, 3, 93, 0, 0, 0) = true := by decide +kernel
theorem ca_83_86 : decode prog_13_method_7_code 86 = .ok (.iastore, 1) ∧ lnkB 11 false 86 (.iastore, 1, 0, 0, 0, 0) = true := by decide +kernel
theorem ck_83_90 : decode prog_13_method_7_code 90 = .ok (.goto (-23), 3) ∧ lnkB 11 false 90 (.goto (-23), 3, 67, 0, 0, 0) = true := by decide +kernel
theorem ck_83_94 : decode prog_13_method_7_code 94 = .ok (.ireturn, 1) ∧ lnkB 11 false 94 (.ireturn, 1, 0, 0, 0, 0) = true := by decide +kernel
abbrev RU_83 (d : Nat) (cp : Nat × Nat) (Post : Option Value → Sto → Prop) : PP := Runs (Ex d) prog_13_method_7_code 11 false 6 (some .boolean) none cp Post
theorem en_83 {d : Nat} {As : List Value} {S : Sto} {mc ms : Nat} {Post : Option Value → Sto → Prop} (hc : cats As ≤ 6) (h : RU_83 d (mc, ms) Post 0 (lv_args 0 As) [] S 0 0) : Ex (d + 1) 83 As S mc ms Post := ⟨by decide, hc, h⟩
def sg_84_0 : List RI := [(.iload_n 1, 1, 0, 0, 0, 0), (.iconst 0, 1, 0, 0, 0, 0), (.iconst 5, 1, 0, 0, 0, 5)]
theorem sk_84_0 : segB 11 false prog_13_method_8_code 0 sg_84_0 = true := by decide +kernel
def sg_84_9 : List RI := [(.iload_n 2, 1, 0, 0, 0, 0), (.iconst 0, 1, 0, 0, 0, 0), (.iconst 3, 1, 0, 0, 0, 3)]
theorem sk_84_9 : segB 11 false prog_13_method_8_code 9 sg_84_9 = true := by decide +kernel
def sg_84_18 : List RI := [(.iload_n 3, 1, 0, 0, 0, 0), (.iconst 0, 1, 0, 0, 0, 0), (.iconst 2, 1, 0, 0, 0, 2)]
theorem sk_84_18 : segB 11 false prog_13_method_8_code 18 sg_84_18 = true := by decide +kernel
def sg_84_27 : List RI := [(.iload 4, 2, 0, 0, 0, 0), (.iconst 0, 1, 0, 0, 0, 0), (.iconst 5, 1, 0, 0, 0, 5)]
theorem sk_84_27 : segB 11 false prog_13_method_8_code 27 sg_84_27 = true := by decide +kernel
def sg_84_37 : List RI := [(.iload 5, 2, 0, 0, 0, 0), (.iconst 1, 1, 0, 0, 0, 1), (.iconst 5, 1, 0, 0, 0, 5)]
theorem sk_84_37 : segB 11 false prog_13_method_8_code 37 sg_84_37 = true := by decide +kernel
def sg_84_47 : List RI := [(.iconst 0, 1, 0, 0, 0, 0)]
theorem sk_84_47 : segB 11 false prog_13_method_8_code 47 sg_84_47 = true := by decide +kernel
def sg_84_49 : List RI := [(.aload_n 0, 1, 0, 0, 0, 0), (.getfield 52, 3, 11, 17, 2, 0), (.iconst 4, 1, 0, 0, 0, 4), (.iload_n 1, 1, 0, 0, 0, 0), (.imul, 1, 0, 0, 0, 0), (.iload_n 2, 1, 0, 0, 0, 0), (.iadd, 1, 0, 0, 0, 0), (.iload_n 3, 1, 0, 0, 0, 0)]
theorem sk_84_49 : segB 11 false prog_13_method_8_code 49 sg_84_49 = true := by decide +kernel
def sg_84_60 : List RI := [(.aload_n 0, 1, 0, 0, 0, 0), (.getfield 55, 3, 11, 18, 2, 0), (.iconst 4, 1, 0, 0, 0, 4), (.iload_n 1, 1, 0, 0, 0, 0), (.imul, 1, 0, 0, 0, 0), (.iload_n 2, 1, 0, 0, 0, 0), (.iadd, 1, 0, 0, 0, 0), (.iload 4, 2, 0, 0, 0, 0)]
theorem sk_84_60 : segB 11 false prog_13_method_8_code 60 sg_84_60 = true := by decide +kernel
def sg_84_72 : List RI := [(.aload_n 0, 1, 0, 0, 0, 0), (.getfield 58, 3, 11, 19, 2, 0), (.iconst 4, 1, 0, 0, 0, 4), (.iload_n 1, 1, 0, 0, 0, 0), (.imul, 1, 0, 0, 0, 0), (.iload_n 2, 1, 0, 0, 0, 0), (.iadd, 1, 0, 0, 0, 0), (.iload 5, 2, 0, 0, 0, 0)]
theorem sk_84_72 : segB 11 false prog_13_method_8_code 72 sg_84_72 = true := by decide +kernel
def sg_84_84 : List RI := [(.aload_n 0, 1, 0, 0, 0, 0), (.getfield 61, 3, 11, 20, 2, 0), (.iconst 4, 1, 0, 0, 0, 4), (.iload_n 1, 1, 0, 0, 0, 0), (.imul, 1, 0, 0, 0, 0), (.iload_n 2, 1, 0, 0, 0, 0), (.iadd, 1, 0, 0, 0, 0), (.iload 6, 2, 0, 0, 0, 0)]
theorem sk_84_84 : segB 11 false prog_13_method_8_code 84 sg_84_84 = true := by decide +kernel
def sg_84_96 : List RI := [(.iconst 1, 1, 0, 0, 0, 1)]
theorem sk_84_96 : segB 11 false prog_13_method_8_code 96 sg_84_96 = true := by decide +kernel
theorem ck_84_3 : decode prog_13_method_8_code 3 = .ok (.invokestatic 162, 3) ∧ lnkB 11 false 3 (.invokestatic 162, 3, 81, 0, 0, 0) = true := by decide +kernel
theorem ck_84_6 : decode prog_13_method_8_code 6 = .ok (.ifCond .eq 41, 3) ∧ lnkB 11 false 6 (.ifCond .eq 41, 3, 47, 0, 0, 0) = true := by decide +kernel
theorem ck_84_12 : decode prog_13_method_8_code 12 = .ok (.invokestatic 162, 3) ∧ lnkB 11 false 12 (.invokestatic 162, 3, 81, 0, 0, 0) = true := by decide +kernel
theorem ck_84_15 : decode prog_13_method_8_code 15 = .ok (.ifCond .eq 32, 3) ∧ lnkB 11 false 15 (.ifCond .eq 32, 3, 47, 0, 0, 0) = true := by decide +kernel
theorem ck_84_21 : decode prog_13_method_8_code 21 = .ok (.invokestatic 162, 3) ∧ lnkB 11 false 21 (.invokestatic 162, 3, 81, 0, 0, 0) = true := by decide +kernel
theorem ck_84_24 : decode prog_13_method_8_code 24 = .ok (.ifCond .eq 23, 3) ∧ lnkB 11 false 24 (.ifCond .eq 23, 3, 47, 0, 0, 0) = true := by decide +kernel
theorem ck_84_31 : decode prog_13_method_8_code 31 = .ok (.invokestatic 162, 3) ∧ lnkB 11 false 31 (.invokestatic 162, 3, 81, 0, 0, 0) = true := by decide +kernel
theorem ck_84_34 : decode prog_13_method_8_code 34 = .ok (.ifCond .eq 13, 3) ∧ lnkB 11 false 34 (.ifCond .eq 13, 3, 47, 0, 0, 0) = true := by decide +kernel
theorem ck_84_41 : decode prog_13_method_8_code 41 = .ok (.invokestatic 162, 3) ∧ lnkB 11 false 41 (.invokestatic 162, 3, 81, 0, 0, 0) = true := by decide +kernel
theorem ck_84_44 : decode prog_13_method_8_code 44 = .ok (.ifCond .ne 5, 3) ∧ lnkB 11 false 44 (.ifCond .ne 5, 3, 49, 0, 0, 0) = true := by decide +kernel
theorem ck_84_48 : decode prog_13_method_8_code 48 = .ok (.ireturn, 1) ∧ lnkB 11 false 48 (.ireturn, 1, 0, 0, 0, 0) = true := by decide +kernel
theorem ca_84_59 : decode prog_13_method_8_code 59 = .ok (.iastore, 1) ∧ lnkB 11 false 59 (.iastore, 1, 0, 0, 0, 0) = true := by decide +kernel
theorem ca_84_71 : decode prog_13_method_8_code 71 = .ok (.iastore, 1) ∧ lnkB 11 false 71 (.iastore, 1, 0, 0, 0, 0) = true := by decide +kernel
theorem ca_84_83 : decode prog_13_method_8_code 83 = .ok (.iastore, 1) ∧ lnkB 11 false 83 (.iastore, 1, 0, 0, 0, 0) = true := by decide +kernel
theorem ca_84_95 : decode prog_13_method_8_code 95 = .ok (.bastore, 1) ∧ lnkB 11 false 95 (.bastore, 1, 15, 0, 0, 0) = true := by decide +kernel
theorem ck_84_97 : decode prog_13_method_8_code 97 = .ok (.ireturn, 1) ∧ lnkB 11 false 97 (.ireturn, 1, 0, 0, 0, 0) = true := by decide +kernel
abbrev RU_84 (d : Nat) (cp : Nat × Nat) (Post : Option Value → Sto → Prop) : PP := Runs (Ex d) prog_13_method_8_code 11 false 7 (some .boolean) none cp Post
theorem en_84 {d : Nat} {As : List Value} {S : Sto} {mc ms : Nat} {Post : Option Value → Sto → Prop} (hc : cats As ≤ 7) (h : RU_84 d (mc, ms) Post 0 (lv_args 0 As) [] S 0 0) : Ex (d + 1) 84 As S mc ms Post := ⟨by decide, hc, h⟩
def sg_85_0 : List RI := [(.iload_n 1, 1, 0, 0, 0, 0), (.iload_n 2, 1, 0, 0, 0, 0)]
theorem sk_85_0 : segB 11 false prog_13_method_10_code 0 sg_85_0 = true := by decide +kernel
def sg_85_8 : List RI := [(.aload_n 0, 1, 0, 0, 0, 0), (.getfield 65, 3, 11, 21, 2, 0), (.bipush 32, 2, 0, 0, 0, 32), (.iload_n 1, 1, 0, 0, 0, 0), (.imul, 1, 0, 0, 0, 0), (.iload_n 2, 1, 0, 0, 0, 0), (.iadd, 1, 0, 0, 0, 0)]
theorem sk_85_8 : segB 11 false prog_13_method_10_code 8 sg_85_8 = true := by decide +kernel
def sg_85_19 : List RI := [(.iload_n 3, 1, 0, 0, 0, 0)]
theorem sk_85_19 : segB 11 false prog_13_method_10_code 19 sg_85_19 = true := by decide +kernel
def sg_85_23 : List RI := [(.iconst 0, 1, 0, 0, 0, 0)]
theorem sk_85_23 : segB 11 false prog_13_method_10_code 23 sg_85_23 = true := by decide +kernel
def sg_85_25 : List RI := [(.aload_n 0, 1, 0, 0, 0, 0), (.getfield 65, 3, 11, 21, 2, 0), (.bipush 32, 2, 0, 0, 0, 32), (.iload_n 1, 1, 0, 0, 0, 0), (.imul, 1, 0, 0, 0, 0), (.iload_n 2, 1, 0, 0, 0, 0), (.iadd, 1, 0, 0, 0, 0), (.iload_n 3, 1, 0, 0, 0, 0)]
theorem sk_85_25 : segB 11 false prog_13_method_10_code 25 sg_85_25 = true := by decide +kernel
def sg_85_37 : List RI := [(.aload_n 0, 1, 0, 0, 0, 0), (.getfield 80, 3, 11, 26, 2, 0), (.bipush 32, 2, 0, 0, 0, 32), (.iload_n 1, 1, 0, 0, 0, 0), (.imul, 1, 0, 0, 0, 0), (.iload_n 2, 1, 0, 0, 0, 0), (.iadd, 1, 0, 0, 0, 0), (.iconst (-1), 1, 0, 0, 0, -1)]
theorem sk_85_37 : segB 11 false prog_13_method_10_code 37 sg_85_37 = true := by decide +kernel
def sg_85_49 : List RI := [(.iconst 1, 1, 0, 0, 0, 1)]
theorem sk_85_49 : segB 11 false prog_13_method_10_code 49 sg_85_49 = true := by decide +kernel
theorem ck_85_2 : decode prog_13_method_10_code 2 = .ok (.invokestatic 170, 3) ∧ lnkB 11 false 2 (.invokestatic 170, 3, 86, 0, 0, 0) = true := by decide +kernel
theorem ck_85_5 : decode prog_13_method_10_code 5 = .ok (.ifCond .eq 18, 3) ∧ lnkB 11 false 5 (.ifCond .eq 18, 3, 23, 0, 0, 0) = true := by decide +kernel
theorem ca_85_18 : decode prog_13_method_10_code 18 = .ok (.baload, 1) ∧ lnkB 11 false 18 (.baload, 1, 15, 0, 0, 0) = true := by decide +kernel
theorem ck_85_20 : decode prog_13_method_10_code 20 = .ok (.if_icmp .ne 5, 3) ∧ lnkB 11 false 20 (.if_icmp .ne 5, 3, 25, 0, 0, 0) = true := by decide +kernel
theorem ck_85_24 : decode prog_13_method_10_code 24 = .ok (.ireturn, 1) ∧ lnkB 11 false 24 (.ireturn, 1, 0, 0, 0, 0) = true := by decide +kernel
theorem ca_85_36 : decode prog_13_method_10_code 36 = .ok (.bastore, 1) ∧ lnkB 11 false 36 (.bastore, 1, 15, 0, 0, 0) = true := by decide +kernel
theorem ca_85_48 : decode prog_13_method_10_code 48 = .ok (.iastore, 1) ∧ lnkB 11 false 48 (.iastore, 1, 0, 0, 0, 0) = true := by decide +kernel
theorem ck_85_50 : decode prog_13_method_10_code 50 = .ok (.ireturn, 1) ∧ lnkB 11 false 50 (.ireturn, 1, 0, 0, 0, 0) = true := by decide +kernel
abbrev RU_85 (d : Nat) (cp : Nat × Nat) (Post : Option Value → Sto → Prop) : PP := Runs (Ex d) prog_13_method_10_code 11 false 4 (some .boolean) none cp Post
theorem en_85 {d : Nat} {As : List Value} {S : Sto} {mc ms : Nat} {Post : Option Value → Sto → Prop} (hc : cats As ≤ 4) (h : RU_85 d (mc, ms) Post 0 (lv_args 0 As) [] S 0 0) : Ex (d + 1) 85 As S mc ms Post := ⟨by decide, hc, h⟩
def sg_86_0 : List RI := [(.iload_n 0, 1, 0, 0, 0, 0), (.iconst 0, 1, 0, 0, 0, 0), (.iconst 5, 1, 0, 0, 0, 5)]
theorem sk_86_0 : segB 11 false prog_13_method_9_code 0 sg_86_0 = true := by decide +kernel
def sg_86_9 : List RI := [(.iload_n 1, 1, 0, 0, 0, 0), (.iconst 0, 1, 0, 0, 0, 0), (.bipush 31, 2, 0, 0, 0, 31)]
theorem sk_86_9 : segB 11 false prog_13_method_9_code 9 sg_86_9 = true := by decide +kernel
def sg_86_19 : List RI := [(.iconst 1, 1, 0, 0, 0, 1)]
theorem sk_86_19 : segB 11 false prog_13_method_9_code 19 sg_86_19 = true := by decide +kernel
def sg_86_23 : List RI := [(.iconst 0, 1, 0, 0, 0, 0)]
theorem sk_86_23 : segB 11 false prog_13_method_9_code 23 sg_86_23 = true := by decide +kernel
theorem ck_86_3 : decode prog_13_method_9_code 3 = .ok (.invokestatic 162, 3) ∧ lnkB 11 false 3 (.invokestatic 162, 3, 81, 0, 0, 0) = true := by decide +kernel
theorem ck_86_6 : decode prog_13_method_9_code 6 = .ok (.ifCond .eq 17, 3) ∧ lnkB 11 false 6 (.ifCond .eq 17, 3, 23, 0, 0, 0) = true := by decide +kernel
theorem ck_86_13 : decode prog_13_method_9_code 13 = .ok (.invokestatic 162, 3) ∧ lnkB 11 false 13 (.invokestatic 162, 3, 81, 0, 0, 0) = true := by decide +kernel
theorem ck_86_16 : decode prog_13_method_9_code 16 = .ok (.ifCond .eq 7, 3) ∧ lnkB 11 false 16 (.ifCond .eq 7, 3, 23, 0, 0, 0) = true := by decide +kernel
theorem ck_86_20 : decode prog_13_method_9_code 20 = .ok (.goto 4, 3) ∧ lnkB 11 false 20 (.goto 4, 3, 24, 0, 0, 0) = true := by decide +kernel
theorem ck_86_24 : decode prog_13_method_9_code 24 = .ok (.ireturn, 1) ∧ lnkB 11 false 24 (.ireturn, 1, 0, 0, 0, 0) = true := by decide +kernel
abbrev RU_86 (d : Nat) (cp : Nat × Nat) (Post : Option Value → Sto → Prop) : PP := Runs (Ex d) prog_13_method_9_code 11 false 2 (some .boolean) none cp Post
theorem en_86 {d : Nat} {As : List Value} {S : Sto} {mc ms : Nat} {Post : Option Value → Sto → Prop} (hc : cats As ≤ 2) (h : RU_86 d (mc, ms) Post 0 (lv_args 0 As) [] S 0 0) : Ex (d + 1) 86 As S mc ms Post := ⟨by decide, hc, h⟩
def sg_87_0 : List RI := [(.iload_n 1, 1, 0, 0, 0, 0), (.iload_n 2, 1, 0, 0, 0, 0)]
theorem sk_87_0 : segB 11 false prog_13_method_11_code 0 sg_87_0 = true := by decide +kernel
def sg_87_8 : List RI := [(.iload_n 3, 1, 0, 0, 0, 0), (.iconst 0, 1, 0, 0, 0, 0), (.iconst 3, 1, 0, 0, 0, 3)]
theorem sk_87_8 : segB 11 false prog_13_method_11_code 8 sg_87_8 = true := by decide +kernel
def sg_87_17 : List RI := [(.iload 4, 2, 0, 0, 0, 0), (.ldc 174, 2, 0, 0, 0, -99999), (.ldc 175, 2, 0, 0, 0, 99999)]
theorem sk_87_17 : segB 11 false prog_13_method_11_code 17 sg_87_17 = true := by decide +kernel
def sg_87_29 : List RI := [(.iconst 0, 1, 0, 0, 0, 0)]
theorem sk_87_29 : segB 11 false prog_13_method_11_code 29 sg_87_29 = true := by decide +kernel
def sg_87_31 : List RI := [(.aload_n 0, 1, 0, 0, 0, 0), (.getfield 68, 3, 11, 22, 2, 0), (.iconst 4, 1, 0, 0, 0, 4), (.bipush 32, 2, 0, 0, 0, 32), (.iload_n 1, 1, 0, 0, 0, 0), (.imul, 1, 0, 0, 0, 0), (.iload_n 2, 1, 0, 0, 0, 0), (.iadd, 1, 0, 0, 0, 0), (.imul, 1, 0, 0, 0, 0), (.iload_n 3, 1, 0, 0, 0, 0), (.iadd, 1, 0, 0, 0, 0), (.iload 4, 2, 0, 0, 0, 0)]
theorem sk_87_31 : segB 11 false prog_13_method_11_code 31 sg_87_31 = true := by decide +kernel
def sg_87_48 : List RI := [(.aload_n 0, 1, 0, 0, 0, 0), (.getfield 80, 3, 11, 26, 2, 0), (.bipush 32, 2, 0, 0, 0, 32), (.iload_n 1, 1, 0, 0, 0, 0), (.imul, 1, 0, 0, 0, 0), (.iload_n 2, 1, 0, 0, 0, 0), (.iadd, 1, 0, 0, 0, 0), (.iconst (-1), 1, 0, 0, 0, -1)]
theorem sk_87_48 : segB 11 false prog_13_method_11_code 48 sg_87_48 = true := by decide +kernel
def sg_87_60 : List RI := [(.iconst 1, 1, 0, 0, 0, 1)]
theorem sk_87_60 : segB 11 false prog_13_method_11_code 60 sg_87_60 = true := by decide +kernel
theorem ck_87_2 : decode prog_13_method_11_code 2 = .ok (.invokestatic 170, 3) ∧ lnkB 11 false 2 (.invokestatic 170, 3, 86, 0, 0, 0) = true := by decide +kernel
theorem ck_87_5 : decode prog_13_method_11_code 5 = .ok (.ifCond .eq 24, 3) ∧ lnkB 11 false 5 (.ifCond .eq 24, 3, 29, 0, 0, 0) = true := by decide +kernel
theorem ck_87_11 : decode prog_13_method_11_code 11 = .ok (.invokestatic 162, 3) ∧ lnkB 11 false 11 (.invokestatic 162, 3, 81, 0, 0, 0) = true := by decide +kernel
theorem ck_87_14 : decode prog_13_method_11_code 14 = .ok (.ifCond .eq 15, 3) ∧ lnkB 11 false 14 (.ifCond .eq 15, 3, 29, 0, 0, 0) = true := by decide +kernel
theorem ck_87_23 : decode prog_13_method_11_code 23 = .ok (.invokestatic 162, 3) ∧ lnkB 11 false 23 (.invokestatic 162, 3, 81, 0, 0, 0) = true := by decide +kernel
theorem ck_87_26 : decode prog_13_method_11_code 26 = .ok (.ifCond .ne 5, 3) ∧ lnkB 11 false 26 (.ifCond .ne 5, 3, 31, 0, 0, 0) = true := by decide +kernel
theorem ck_87_30 : decode prog_13_method_11_code 30 = .ok (.ireturn, 1) ∧ lnkB 11 false 30 (.ireturn, 1, 0, 0, 0, 0) = true := by decide +kernel
theorem ca_87_47 : decode prog_13_method_11_code 47 = .ok (.iastore, 1) ∧ lnkB 11 false 47 (.iastore, 1, 0, 0, 0, 0) = true := by decide +kernel
theorem ca_87_59 : decode prog_13_method_11_code 59 = .ok (.iastore, 1) ∧ lnkB 11 false 59 (.iastore, 1, 0, 0, 0, 0) = true := by decide +kernel
theorem ck_87_61 : decode prog_13_method_11_code 61 = .ok (.ireturn, 1) ∧ lnkB 11 false 61 (.ireturn, 1, 0, 0, 0, 0) = true := by decide +kernel
abbrev RU_87 (d : Nat) (cp : Nat × Nat) (Post : Option Value → Sto → Prop) : PP := Runs (Ex d) prog_13_method_11_code 11 false 5 (some .boolean) none cp Post
theorem en_87 {d : Nat} {As : List Value} {S : Sto} {mc ms : Nat} {Post : Option Value → Sto → Prop} (hc : cats As ≤ 5) (h : RU_87 d (mc, ms) Post 0 (lv_args 0 As) [] S 0 0) : Ex (d + 1) 87 As S mc ms Post := ⟨by decide, hc, h⟩
def sg_88_0 : List RI := [(.iload_n 1, 1, 0, 0, 0, 0), (.iload_n 2, 1, 0, 0, 0, 0)]
theorem sk_88_0 : segB 11 false prog_13_method_12_code 0 sg_88_0 = true := by decide +kernel
def sg_88_8 : List RI := [(.iload_n 3, 1, 0, 0, 0, 0), (.iconst 0, 1, 0, 0, 0, 0), (.iconst 3, 1, 0, 0, 0, 3)]
theorem sk_88_8 : segB 11 false prog_13_method_12_code 8 sg_88_8 = true := by decide +kernel
def sg_88_17 : List RI := [(.iload 4, 2, 0, 0, 0, 0), (.iconst (-1), 1, 0, 0, 0, -1), (.bipush 31, 2, 0, 0, 0, 31)]
theorem sk_88_17 : segB 11 false prog_13_method_12_code 17 sg_88_17 = true := by decide +kernel
def sg_88_28 : List RI := [(.iconst 0, 1, 0, 0, 0, 0)]
theorem sk_88_28 : segB 11 false prog_13_method_12_code 28 sg_88_28 = true := by decide +kernel
def sg_88_30 : List RI := [(.aload_n 0, 1, 0, 0, 0, 0), (.getfield 71, 3, 11, 23, 2, 0), (.iconst 4, 1, 0, 0, 0, 4), (.bipush 32, 2, 0, 0, 0, 32), (.iload_n 1, 1, 0, 0, 0, 0), (.imul, 1, 0, 0, 0, 0), (.iload_n 2, 1, 0, 0, 0, 0), (.iadd, 1, 0, 0, 0, 0), (.imul, 1, 0, 0, 0, 0), (.iload_n 3, 1, 0, 0, 0, 0), (.iadd, 1, 0, 0, 0, 0), (.iload 4, 2, 0, 0, 0, 0)]
theorem sk_88_30 : segB 11 false prog_13_method_12_code 30 sg_88_30 = true := by decide +kernel
def sg_88_47 : List RI := [(.aload_n 0, 1, 0, 0, 0, 0), (.getfield 80, 3, 11, 26, 2, 0), (.bipush 32, 2, 0, 0, 0, 32), (.iload_n 1, 1, 0, 0, 0, 0), (.imul, 1, 0, 0, 0, 0), (.iload_n 2, 1, 0, 0, 0, 0), (.iadd, 1, 0, 0, 0, 0), (.iconst (-1), 1, 0, 0, 0, -1)]
theorem sk_88_47 : segB 11 false prog_13_method_12_code 47 sg_88_47 = true := by decide +kernel
def sg_88_59 : List RI := [(.iconst 1, 1, 0, 0, 0, 1)]
theorem sk_88_59 : segB 11 false prog_13_method_12_code 59 sg_88_59 = true := by decide +kernel
theorem ck_88_2 : decode prog_13_method_12_code 2 = .ok (.invokestatic 170, 3) ∧ lnkB 11 false 2 (.invokestatic 170, 3, 86, 0, 0, 0) = true := by decide +kernel
theorem ck_88_5 : decode prog_13_method_12_code 5 = .ok (.ifCond .eq 23, 3) ∧ lnkB 11 false 5 (.ifCond .eq 23, 3, 28, 0, 0, 0) = true := by decide +kernel
theorem ck_88_11 : decode prog_13_method_12_code 11 = .ok (.invokestatic 162, 3) ∧ lnkB 11 false 11 (.invokestatic 162, 3, 81, 0, 0, 0) = true := by decide +kernel
theorem ck_88_14 : decode prog_13_method_12_code 14 = .ok (.ifCond .eq 14, 3) ∧ lnkB 11 false 14 (.ifCond .eq 14, 3, 28, 0, 0, 0) = true := by decide +kernel
theorem ck_88_22 : decode prog_13_method_12_code 22 = .ok (.invokestatic 162, 3) ∧ lnkB 11 false 22 (.invokestatic 162, 3, 81, 0, 0, 0) = true := by decide +kernel
theorem ck_88_25 : decode prog_13_method_12_code 25 = .ok (.ifCond .ne 5, 3) ∧ lnkB 11 false 25 (.ifCond .ne 5, 3, 30, 0, 0, 0) = true := by decide +kernel
theorem ck_88_29 : decode prog_13_method_12_code 29 = .ok (.ireturn, 1) ∧ lnkB 11 false 29 (.ireturn, 1, 0, 0, 0, 0) = true := by decide +kernel
theorem ca_88_46 : decode prog_13_method_12_code 46 = .ok (.iastore, 1) ∧ lnkB 11 false 46 (.iastore, 1, 0, 0, 0, 0) = true := by decide +kernel
theorem ca_88_58 : decode prog_13_method_12_code 58 = .ok (.iastore, 1) ∧ lnkB 11 false 58 (.iastore, 1, 0, 0, 0, 0) = true := by decide +kernel
theorem ck_88_60 : decode prog_13_method_12_code 60 = .ok (.ireturn, 1) ∧ lnkB 11 false 60 (.ireturn, 1, 0, 0, 0, 0) = true := by decide +kernel
abbrev RU_88 (d : Nat) (cp : Nat × Nat) (Post : Option Value → Sto → Prop) : PP := Runs (Ex d) prog_13_method_12_code 11 false 5 (some .boolean) none cp Post
theorem en_88 {d : Nat} {As : List Value} {S : Sto} {mc ms : Nat} {Post : Option Value → Sto → Prop} (hc : cats As ≤ 5) (h : RU_88 d (mc, ms) Post 0 (lv_args 0 As) [] S 0 0) : Ex (d + 1) 88 As S mc ms Post := ⟨by decide, hc, h⟩
def sg_89_0 : List RI := [(.iload_n 1, 1, 0, 0, 0, 0), (.iload_n 2, 1, 0, 0, 0, 0)]
theorem sk_89_0 : segB 11 false prog_13_method_13_code 0 sg_89_0 = true := by decide +kernel
def sg_89_8 : List RI := [(.iload_n 3, 1, 0, 0, 0, 0), (.iconst 0, 1, 0, 0, 0, 0), (.iconst 3, 1, 0, 0, 0, 3)]
theorem sk_89_8 : segB 11 false prog_13_method_13_code 8 sg_89_8 = true := by decide +kernel
def sg_89_17 : List RI := [(.iload 4, 2, 0, 0, 0, 0), (.iconst 0, 1, 0, 0, 0, 0), (.iconst 5, 1, 0, 0, 0, 5)]
theorem sk_89_17 : segB 11 false prog_13_method_13_code 17 sg_89_17 = true := by decide +kernel
def sg_89_27 : List RI := [(.iconst 0, 1, 0, 0, 0, 0)]
theorem sk_89_27 : segB 11 false prog_13_method_13_code 27 sg_89_27 = true := by decide +kernel
def sg_89_29 : List RI := [(.aload_n 0, 1, 0, 0, 0, 0), (.getfield 74, 3, 11, 24, 2, 0), (.iconst 4, 1, 0, 0, 0, 4), (.bipush 32, 2, 0, 0, 0, 32), (.iload_n 1, 1, 0, 0, 0, 0), (.imul, 1, 0, 0, 0, 0), (.iload_n 2, 1, 0, 0, 0, 0), (.iadd, 1, 0, 0, 0, 0), (.imul, 1, 0, 0, 0, 0), (.iload_n 3, 1, 0, 0, 0, 0), (.iadd, 1, 0, 0, 0, 0), (.iload 4, 2, 0, 0, 0, 0)]
theorem sk_89_29 : segB 11 false prog_13_method_13_code 29 sg_89_29 = true := by decide +kernel
def sg_89_46 : List RI := [(.aload_n 0, 1, 0, 0, 0, 0), (.getfield 77, 3, 11, 25, 2, 0), (.iconst 4, 1, 0, 0, 0, 4), (.bipush 32, 2, 0, 0, 0, 32), (.iload_n 1, 1, 0, 0, 0, 0), (.imul, 1, 0, 0, 0, 0), (.iload_n 2, 1, 0, 0, 0, 0), (.iadd, 1, 0, 0, 0, 0), (.imul, 1, 0, 0, 0, 0), (.iload_n 3, 1, 0, 0, 0, 0), (.iadd, 1, 0, 0, 0, 0), (.iload 5, 2, 0, 0, 0, 0)]
theorem sk_89_46 : segB 11 false prog_13_method_13_code 46 sg_89_46 = true := by decide +kernel
def sg_89_63 : List RI := [(.aload_n 0, 1, 0, 0, 0, 0), (.getfield 80, 3, 11, 26, 2, 0), (.bipush 32, 2, 0, 0, 0, 32), (.iload_n 1, 1, 0, 0, 0, 0), (.imul, 1, 0, 0, 0, 0), (.iload_n 2, 1, 0, 0, 0, 0), (.iadd, 1, 0, 0, 0, 0), (.iconst (-1), 1, 0, 0, 0, -1)]
theorem sk_89_63 : segB 11 false prog_13_method_13_code 63 sg_89_63 = true := by decide +kernel
def sg_89_75 : List RI := [(.iconst 1, 1, 0, 0, 0, 1)]
theorem sk_89_75 : segB 11 false prog_13_method_13_code 75 sg_89_75 = true := by decide +kernel
theorem ck_89_2 : decode prog_13_method_13_code 2 = .ok (.invokestatic 170, 3) ∧ lnkB 11 false 2 (.invokestatic 170, 3, 86, 0, 0, 0) = true := by decide +kernel
theorem ck_89_5 : decode prog_13_method_13_code 5 = .ok (.ifCond .eq 22, 3) ∧ lnkB 11 false 5 (.ifCond .eq 22, 3, 27, 0, 0, 0) = true := by decide +kernel
theorem ck_89_11 : decode prog_13_method_13_code 11 = .ok (.invokestatic 162, 3) ∧ lnkB 11 false 11 (.invokestatic 162, 3, 81, 0, 0, 0) = true := by decide +kernel
theorem ck_89_14 : decode prog_13_method_13_code 14 = .ok (.ifCond .eq 13, 3) ∧ lnkB 11 false 14 (.ifCond .eq 13, 3, 27, 0, 0, 0) = true := by decide +kernel
theorem ck_89_21 : decode prog_13_method_13_code 21 = .ok (.invokestatic 162, 3) ∧ lnkB 11 false 21 (.invokestatic 162, 3, 81, 0, 0, 0) = true := by decide +kernel
theorem ck_89_24 : decode prog_13_method_13_code 24 = .ok (.ifCond .ne 5, 3) ∧ lnkB 11 false 24 (.ifCond .ne 5, 3, 29, 0, 0, 0) = true := by decide +kernel
theorem ck_89_28 : decode prog_13_method_13_code 28 = .ok (.ireturn, 1) ∧ lnkB 11 false 28 (.ireturn, 1, 0, 0, 0, 0) = true := by decide +kernel
theorem ca_89_45 : decode prog_13_method_13_code 45 = .ok (.iastore, 1) ∧ lnkB 11 false 45 (.iastore, 1, 0, 0, 0, 0) = true := by decide +kernel
theorem ca_89_62 : decode prog_13_method_13_code 62 = .ok (.iastore, 1) ∧ lnkB 11 false 62 (.iastore, 1, 0, 0, 0, 0) = true := by decide +kernel
theorem ca_89_74 : decode prog_13_method_13_code 74 = .ok (.iastore, 1) ∧ lnkB 11 false 74 (.iastore, 1, 0, 0, 0, 0) = true := by decide +kernel
theorem ck_89_76 : decode prog_13_method_13_code 76 = .ok (.ireturn, 1) ∧ lnkB 11 false 76 (.ireturn, 1, 0, 0, 0, 0) = true := by decide +kernel
abbrev RU_89 (d : Nat) (cp : Nat × Nat) (Post : Option Value → Sto → Prop) : PP := Runs (Ex d) prog_13_method_13_code 11 false 6 (some .boolean) none cp Post
theorem en_89 {d : Nat} {As : List Value} {S : Sto} {mc ms : Nat} {Post : Option Value → Sto → Prop} (hc : cats As ≤ 6) (h : RU_89 d (mc, ms) Post 0 (lv_args 0 As) [] S 0 0) : Ex (d + 1) 89 As S mc ms Post := ⟨by decide, hc, h⟩
def sg_90_0 : List RI := [(.iload_n 1, 1, 0, 0, 0, 0), (.iconst 0, 1, 0, 0, 0, 0), (.iconst 3, 1, 0, 0, 0, 3)]
theorem sk_90_0 : segB 11 false prog_13_method_14_code 0 sg_90_0 = true := by decide +kernel
def sg_90_9 : List RI := [(.iload_n 2, 1, 0, 0, 0, 0), (.iconst 0, 1, 0, 0, 0, 0), (.bipush 63, 2, 0, 0, 0, 63)]
theorem sk_90_9 : segB 11 false prog_13_method_14_code 9 sg_90_9 = true := by decide +kernel
def sg_90_19 : List RI := [(.iload_n 3, 1, 0, 0, 0, 0), (.iconst 1, 1, 0, 0, 0, 1), (.sipush 500, 3, 0, 0, 0, 500)]
theorem sk_90_19 : segB 11 false prog_13_method_14_code 19 sg_90_19 = true := by decide +kernel
def sg_90_30 : List RI := [(.iload 4, 2, 0, 0, 0, 0), (.iconst 0, 1, 0, 0, 0, 0), (.bipush 50, 2, 0, 0, 0, 50)]
theorem sk_90_30 : segB 11 false prog_13_method_14_code 30 sg_90_30 = true := by decide +kernel
def sg_90_41 : List RI := [(.iconst 0, 1, 0, 0, 0, 0)]
theorem sk_90_41 : segB 11 false prog_13_method_14_code 41 sg_90_41 = true := by decide +kernel
def sg_90_43 : List RI := [(.aload_n 0, 1, 0, 0, 0, 0), (.getfield 83, 3, 11, 27, 2, 0), (.iload_n 1, 1, 0, 0, 0, 0), (.iload_n 2, 1, 0, 0, 0, 0)]
theorem sk_90_43 : segB 11 false prog_13_method_14_code 43 sg_90_43 = true := by decide +kernel
def sg_90_50 : List RI := [(.aload_n 0, 1, 0, 0, 0, 0), (.getfield 86, 3, 11, 28, 2, 0), (.iload_n 1, 1, 0, 0, 0, 0), (.iload_n 3, 1, 0, 0, 0, 0)]
theorem sk_90_50 : segB 11 false prog_13_method_14_code 50 sg_90_50 = true := by decide +kernel
def sg_90_57 : List RI := [(.aload_n 0, 1, 0, 0, 0, 0), (.getfield 89, 3, 11, 29, 2, 0), (.iload_n 1, 1, 0, 0, 0, 0), (.iload 4, 2, 0, 0, 0, 0)]
theorem sk_90_57 : segB 11 false prog_13_method_14_code 57 sg_90_57 = true := by decide +kernel
def sg_90_65 : List RI := [(.aload_n 0, 1, 0, 0, 0, 0), (.getfield 92, 3, 11, 30, 2, 0), (.iload_n 1, 1, 0, 0, 0, 0), (.aload_n 0, 1, 0, 0, 0, 0), (.getfield 92, 3, 11, 30, 2, 0), (.iload_n 1, 1, 0, 0, 0, 0)]
theorem sk_90_65 : segB 11 false prog_13_method_14_code 65 sg_90_65 = true := by decide +kernel
def sg_90_76 : List RI := [(.iload_n 3, 1, 0, 0, 0, 0)]
theorem sk_90_76 : segB 11 false prog_13_method_14_code 76 sg_90_76 = true := by decide +kernel
def sg_90_80 : List RI := [(.iload_n 3, 1, 0, 0, 0, 0)]
theorem sk_90_80 : segB 11 false prog_13_method_14_code 80 sg_90_80 = true := by decide +kernel
def sg_90_84 : List RI := [(.aload_n 0, 1, 0, 0, 0, 0), (.getfield 92, 3, 11, 30, 2, 0), (.iload_n 1, 1, 0, 0, 0, 0)]
theorem sk_90_84 : segB 11 false prog_13_method_14_code 84 sg_90_84 = true := by decide +kernel
def sg_90_91 : List RI := [(.iconst 1, 1, 0, 0, 0, 1)]
theorem sk_90_91 : segB 11 false prog_13_method_14_code 91 sg_90_91 = true := by decide +kernel
theorem ck_90_3 : decode prog_13_method_14_code 3 = .ok (.invokestatic 162, 3) ∧ lnkB 11 false 3 (.invokestatic 162, 3, 81, 0, 0, 0) = true := by decide +kernel
theorem ck_90_6 : decode prog_13_method_14_code 6 = .ok (.ifCond .eq 35, 3) ∧ lnkB 11 false 6 (.ifCond .eq 35, 3, 41, 0, 0, 0) = true := by decide +kernel
theorem ck_90_13 : decode prog_13_method_14_code 13 = .ok (.invokestatic 162, 3) ∧ lnkB 11 false 13 (.invokestatic 162, 3, 81, 0, 0, 0) = true := by decide +kernel
theorem ck_90_16 : decode prog_13_method_14_code 16 = .ok (.ifCond .eq 25, 3) ∧ lnkB 11 false 16 (.ifCond .eq 25, 3, 41, 0, 0, 0) = true := by decide +kernel
theorem ck_90_24 : decode prog_13_method_14_code 24 = .ok (.invokestatic 162, 3) ∧ lnkB 11 false 24 (.invokestatic 162, 3, 81, 0, 0, 0) = true := by decide +kernel
theorem ck_90_27 : decode prog_13_method_14_code 27 = .ok (.ifCond .eq 14, 3) ∧ lnkB 11 false 27 (.ifCond .eq 14, 3, 41, 0, 0, 0) = true := by decide +kernel
theorem ck_90_35 : decode prog_13_method_14_code 35 = .ok (.invokestatic 162, 3) ∧ lnkB 11 false 35 (.invokestatic 162, 3, 81, 0, 0, 0) = true := by decide +kernel
theorem ck_90_38 : decode prog_13_method_14_code 38 = .ok (.ifCond .ne 5, 3) ∧ lnkB 11 false 38 (.ifCond .ne 5, 3, 43, 0, 0, 0) = true := by decide +kernel
theorem ck_90_42 : decode prog_13_method_14_code 42 = .ok (.ireturn, 1) ∧ lnkB 11 false 42 (.ireturn, 1, 0, 0, 0, 0) = true := by decide +kernel
theorem ca_90_49 : decode prog_13_method_14_code 49 = .ok (.iastore, 1) ∧ lnkB 11 false 49 (.iastore, 1, 0, 0, 0, 0) = true := by decide +kernel
theorem ca_90_56 : decode prog_13_method_14_code 56 = .ok (.iastore, 1) ∧ lnkB 11 false 56 (.iastore, 1, 0, 0, 0, 0) = true := by decide +kernel
theorem ca_90_64 : decode prog_13_method_14_code 64 = .ok (.iastore, 1) ∧ lnkB 11 false 64 (.iastore, 1, 0, 0, 0, 0) = true := by decide +kernel
theorem ca_90_75 : decode prog_13_method_14_code 75 = .ok (.iaload, 1) ∧ lnkB 11 false 75 (.iaload, 1, 0, 0, 0, 0) = true := by decide +kernel
theorem ck_90_77 : decode prog_13_method_14_code 77 = .ok (.if_icmp .le 7, 3) ∧ lnkB 11 false 77 (.if_icmp .le 7, 3, 84, 0, 0, 0) = true := by decide +kernel
theorem ck_90_81 : decode prog_13_method_14_code 81 = .ok (.goto 9, 3) ∧ lnkB 11 false 81 (.goto 9, 3, 90, 0, 0, 0) = true := by decide +kernel
theorem ca_90_89 : decode prog_13_method_14_code 89 = .ok (.iaload, 1) ∧ lnkB 11 false 89 (.iaload, 1, 0, 0, 0, 0) = true := by decide +kernel
theorem ca_90_90 : decode prog_13_method_14_code 90 = .ok (.iastore, 1) ∧ lnkB 11 false 90 (.iastore, 1, 0, 0, 0, 0) = true := by decide +kernel
theorem ck_90_92 : decode prog_13_method_14_code 92 = .ok (.ireturn, 1) ∧ lnkB 11 false 92 (.ireturn, 1, 0, 0, 0, 0) = true := by decide +kernel
abbrev RU_90 (d : Nat) (cp : Nat × Nat) (Post : Option Value → Sto → Prop) : PP := Runs (Ex d) prog_13_method_14_code 11 false 5 (some .boolean) none cp Post
theorem en_90 {d : Nat} {As : List Value} {S : Sto} {mc ms : Nat} {Post : Option Value → Sto → Prop} (hc : cats As ≤ 5) (h : RU_90 d (mc, ms) Post 0 (lv_args 0 As) [] S 0 0) : Ex (d + 1) 90 As S mc ms Post := ⟨by decide, hc, h⟩
def sg_91_0 : List RI := [(.iload_n 1, 1, 0, 0, 0, 0), (.iconst 1, 1, 0, 0, 0, 1), (.sipush 1000, 3, 0, 0, 0, 1000)]
theorem sk_91_0 : segB 11 false prog_13_method_16_code 0 sg_91_0 = true := by decide +kernel
def sg_91_11 : List RI := [(.aload_n 0, 1, 0, 0, 0, 0), (.getfield 176, 3, 11, 1, 0, 0), (.iload_n 1, 1, 0, 0, 0, 0), (.iadd, 1, 0, 0, 0, 0), (.ldc 169, 2, 0, 0, 0, 100000)]
theorem sk_91_11 : segB 11 false prog_13_method_16_code 11 sg_91_11 = true := by decide +kernel
def sg_91_22 : List RI := [(.iconst (-1), 1, 0, 0, 0, -1)]
theorem sk_91_22 : segB 11 false prog_13_method_16_code 22 sg_91_22 = true := by decide +kernel
def sg_91_24 : List RI := [(.aload_n 0, 1, 0, 0, 0, 0), (.iload_n 1, 1, 0, 0, 0, 0)]
theorem sk_91_24 : segB 11 false prog_13_method_16_code 24 sg_91_24 = true := by decide +kernel
def sg_91_29 : List RI := [(.aload_n 0, 1, 0, 0, 0, 0), (.getfield 176, 3, 11, 1, 0, 0)]
theorem sk_91_29 : segB 11 false prog_13_method_16_code 29 sg_91_29 = true := by decide +kernel
theorem ck_91_5 : decode prog_13_method_16_code 5 = .ok (.invokestatic 162, 3) ∧ lnkB 11 false 5 (.invokestatic 162, 3, 81, 0, 0, 0) = true := by decide +kernel
theorem ck_91_8 : decode prog_13_method_16_code 8 = .ok (.ifCond .eq 14, 3) ∧ lnkB 11 false 8 (.ifCond .eq 14, 3, 22, 0, 0, 0) = true := by decide +kernel
theorem ck_91_19 : decode prog_13_method_16_code 19 = .ok (.if_icmp .le 5, 3) ∧ lnkB 11 false 19 (.if_icmp .le 5, 3, 24, 0, 0, 0) = true := by decide +kernel
theorem ck_91_23 : decode prog_13_method_16_code 23 = .ok (.ireturn, 1) ∧ lnkB 11 false 23 (.ireturn, 1, 0, 0, 0, 0) = true := by decide +kernel
theorem ck_91_26 : decode prog_13_method_16_code 26 = .ok (.invokevirtual 179, 3) ∧ lnkB 11 false 26 (.invokevirtual 179, 3, 92, 0, 0, 0) = true := by decide +kernel
theorem ck_91_33 : decode prog_13_method_16_code 33 = .ok (.ireturn, 1) ∧ lnkB 11 false 33 (.ireturn, 1, 0, 0, 0, 0) = true := by decide +kernel
abbrev RU_91 (d : Nat) (cp : Nat × Nat) (Post : Option Value → Sto → Prop) : PP := Runs (Ex d) prog_13_method_16_code 11 false 2 (some .int) none cp Post
theorem en_91 {d : Nat} {As : List Value} {S : Sto} {mc ms : Nat} {Post : Option Value → Sto → Prop} (hc : cats As ≤ 2) (h : RU_91 d (mc, ms) Post 0 (lv_args 0 As) [] S 0 0) : Ex (d + 1) 91 As S mc ms Post := ⟨by decide, hc, h⟩
def sg_92_0 : List RI := [(.aload_n 0, 1, 0, 0, 0, 0), (.dup, 1, 0, 0, 0, 0), (.getfield 176, 3, 11, 1, 0, 0), (.iload_n 1, 1, 0, 0, 0, 0), (.iadd, 1, 0, 0, 0, 0), (.putfield 176, 3, 11, 1, 0, 0), (.iconst 0, 1, 0, 0, 0, 0), (.istore_n 2, 1, 0, 0, 0, 0)]
theorem sk_92_0 : segB 11 false prog_13_method_15_code 0 sg_92_0 = true := by decide +kernel
def sg_92_12 : List RI := [(.iload_n 2, 1, 0, 0, 0, 0), (.iconst 4, 1, 0, 0, 0, 4)]
theorem sk_92_12 : segB 11 false prog_13_method_15_code 12 sg_92_12 = true := by decide +kernel
def sg_92_17 : List RI := [(.aload_n 0, 1, 0, 0, 0, 0), (.getfield 92, 3, 11, 30, 2, 0), (.iload_n 2, 1, 0, 0, 0, 0)]
theorem sk_92_17 : segB 11 false prog_13_method_15_code 17 sg_92_17 = true := by decide +kernel
def sg_92_23 : List RI := [(.i2l, 1, 0, 0, 0, 0), (.iload_n 1, 1, 0, 0, 0, 0), (.i2l, 1, 0, 0, 0, 0), (.aload_n 0, 1, 0, 0, 0, 0), (.getfield 89, 3, 11, 29, 2, 0), (.iload_n 2, 1, 0, 0, 0, 0)]
theorem sk_92_23 : segB 11 false prog_13_method_15_code 23 sg_92_23 = true := by decide +kernel
def sg_92_32 : List RI := [(.i2l, 1, 0, 0, 0, 0), (.lmul, 1, 0, 0, 0, 0), (.ladd, 1, 0, 0, 0, 0), (.lstore_n 3, 1, 0, 0, 0, 0), (.aload_n 0, 1, 0, 0, 0, 0), (.getfield 92, 3, 11, 30, 2, 0), (.iload_n 2, 1, 0, 0, 0, 0), (.lload_n 3, 1, 0, 0, 0, 0), (.aload_n 0, 1, 0, 0, 0, 0), (.getfield 86, 3, 11, 28, 2, 0), (.iload_n 2, 1, 0, 0, 0, 0)]
theorem sk_92_32 : segB 11 false prog_13_method_15_code 32 sg_92_32 = true := by decide +kernel
def sg_92_48 : List RI := [(.i2l, 1, 0, 0, 0, 0), (.lcmp, 1, 0, 0, 0, 0)]
theorem sk_92_48 : segB 11 false prog_13_method_15_code 48 sg_92_48 = true := by decide +kernel
def sg_92_53 : List RI := [(.aload_n 0, 1, 0, 0, 0, 0), (.getfield 86, 3, 11, 28, 2, 0), (.iload_n 2, 1, 0, 0, 0, 0)]
theorem sk_92_53 : segB 11 false prog_13_method_15_code 53 sg_92_53 = true := by decide +kernel
def sg_92_62 : List RI := [(.lload_n 3, 1, 0, 0, 0, 0), (.l2i, 1, 0, 0, 0, 0)]
theorem sk_92_62 : segB 11 false prog_13_method_15_code 62 sg_92_62 = true := by decide +kernel
def sg_92_65 : List RI := [(.iinc 2 1, 3, 0, 0, 0, 1)]
theorem sk_92_65 : segB 11 false prog_13_method_15_code 65 sg_92_65 = true := by decide +kernel
theorem ck_92_14 : decode prog_13_method_15_code 14 = .ok (.if_icmp .ge 57, 3) ∧ lnkB 11 false 14 (.if_icmp .ge 57, 3, 71, 0, 0, 0) = true := by decide +kernel
theorem ca_92_22 : decode prog_13_method_15_code 22 = .ok (.iaload, 1) ∧ lnkB 11 false 22 (.iaload, 1, 0, 0, 0, 0) = true := by decide +kernel
theorem ca_92_31 : decode prog_13_method_15_code 31 = .ok (.iaload, 1) ∧ lnkB 11 false 31 (.iaload, 1, 0, 0, 0, 0) = true := by decide +kernel
theorem ca_92_47 : decode prog_13_method_15_code 47 = .ok (.iaload, 1) ∧ lnkB 11 false 47 (.iaload, 1, 0, 0, 0, 0) = true := by decide +kernel
theorem ck_92_50 : decode prog_13_method_15_code 50 = .ok (.ifCond .le 12, 3) ∧ lnkB 11 false 50 (.ifCond .le 12, 3, 62, 0, 0, 0) = true := by decide +kernel
theorem ca_92_58 : decode prog_13_method_15_code 58 = .ok (.iaload, 1) ∧ lnkB 11 false 58 (.iaload, 1, 0, 0, 0, 0) = true := by decide +kernel
theorem ck_92_59 : decode prog_13_method_15_code 59 = .ok (.goto 5, 3) ∧ lnkB 11 false 59 (.goto 5, 3, 64, 0, 0, 0) = true := by decide +kernel
theorem ca_92_64 : decode prog_13_method_15_code 64 = .ok (.iastore, 1) ∧ lnkB 11 false 64 (.iastore, 1, 0, 0, 0, 0) = true := by decide +kernel
theorem ck_92_68 : decode prog_13_method_15_code 68 = .ok (.goto (-56), 3) ∧ lnkB 11 false 68 (.goto (-56), 3, 12, 0, 0, 0) = true := by decide +kernel
theorem ck_92_71 : decode prog_13_method_15_code 71 = .ok (.return_, 1) ∧ lnkB 11 false 71 (.return_, 1, 0, 0, 0, 0) = true := by decide +kernel
abbrev RU_92 (d : Nat) (cp : Nat × Nat) (Post : Option Value → Sto → Prop) : PP := Runs (Ex d) prog_13_method_15_code 11 false 5 none none cp Post
theorem en_92 {d : Nat} {As : List Value} {S : Sto} {mc ms : Nat} {Post : Option Value → Sto → Prop} (hc : cats As ≤ 5) (h : RU_92 d (mc, ms) Post 0 (lv_args 0 As) [] S 0 0) : Ex (d + 1) 92 As S mc ms Post := ⟨by decide, hc, h⟩
def sg_93_0 : List RI := [(.aload_n 0, 1, 0, 0, 0, 0), (.getfield 183, 3, 11, 32, 0, 0), (.bipush 20, 2, 0, 0, 0, 20), (.iadd, 1, 0, 0, 0, 0), (.sipush 200, 3, 0, 0, 0, 200)]
theorem sk_93_0 : segB 11 false prog_13_method_17_code 0 sg_93_0 = true := by decide +kernel
def sg_93_13 : List RI := [(.iconst (-1), 1, 0, 0, 0, -1)]
theorem sk_93_13 : segB 11 false prog_13_method_17_code 13 sg_93_13 = true := by decide +kernel
def sg_93_15 : List RI := [(.aload_n 0, 1, 0, 0, 0, 0), (.iload_n 1, 1, 0, 0, 0, 0)]
theorem sk_93_15 : segB 11 false prog_13_method_17_code 15 sg_93_15 = true := by decide +kernel
def sg_93_20 : List RI := [(.aload_n 0, 1, 0, 0, 0, 0), (.iload_n 2, 1, 0, 0, 0, 0)]
theorem sk_93_20 : segB 11 false prog_13_method_17_code 20 sg_93_20 = true := by decide +kernel
def sg_93_25 : List RI := [(.aload_n 0, 1, 0, 0, 0, 0), (.iload_n 3, 1, 0, 0, 0, 0)]
theorem sk_93_25 : segB 11 false prog_13_method_17_code 25 sg_93_25 = true := by decide +kernel
def sg_93_30 : List RI := [(.aload_n 0, 1, 0, 0, 0, 0), (.iload 4, 2, 0, 0, 0, 0)]
theorem sk_93_30 : segB 11 false prog_13_method_17_code 30 sg_93_30 = true := by decide +kernel
def sg_93_36 : List RI := [(.aload_n 0, 1, 0, 0, 0, 0), (.iload 5, 2, 0, 0, 0, 0)]
theorem sk_93_36 : segB 11 false prog_13_method_17_code 36 sg_93_36 = true := by decide +kernel
def sg_93_42 : List RI := [(.aload_n 0, 1, 0, 0, 0, 0), (.getfield 183, 3, 11, 32, 0, 0)]
theorem sk_93_42 : segB 11 false prog_13_method_17_code 42 sg_93_42 = true := by decide +kernel
theorem ck_93_10 : decode prog_13_method_17_code 10 = .ok (.if_icmp .le 5, 3) ∧ lnkB 11 false 10 (.if_icmp .le 5, 3, 15, 0, 0, 0) = true := by decide +kernel
theorem ck_93_14 : decode prog_13_method_17_code 14 = .ok (.ireturn, 1) ∧ lnkB 11 false 14 (.ireturn, 1, 0, 0, 0, 0) = true := by decide +kernel
theorem ck_93_17 : decode prog_13_method_17_code 17 = .ok (.invokevirtual 186, 3) ∧ lnkB 11 false 17 (.invokevirtual 186, 3, 94, 0, 0, 0) = true := by decide +kernel
theorem ck_93_22 : decode prog_13_method_17_code 22 = .ok (.invokevirtual 186, 3) ∧ lnkB 11 false 22 (.invokevirtual 186, 3, 94, 0, 0, 0) = true := by decide +kernel
theorem ck_93_27 : decode prog_13_method_17_code 27 = .ok (.invokevirtual 186, 3) ∧ lnkB 11 false 27 (.invokevirtual 186, 3, 94, 0, 0, 0) = true := by decide +kernel
theorem ck_93_33 : decode prog_13_method_17_code 33 = .ok (.invokevirtual 186, 3) ∧ lnkB 11 false 33 (.invokevirtual 186, 3, 94, 0, 0, 0) = true := by decide +kernel
theorem ck_93_39 : decode prog_13_method_17_code 39 = .ok (.invokevirtual 186, 3) ∧ lnkB 11 false 39 (.invokevirtual 186, 3, 94, 0, 0, 0) = true := by decide +kernel
theorem ck_93_46 : decode prog_13_method_17_code 46 = .ok (.ireturn, 1) ∧ lnkB 11 false 46 (.ireturn, 1, 0, 0, 0, 0) = true := by decide +kernel
abbrev RU_93 (d : Nat) (cp : Nat × Nat) (Post : Option Value → Sto → Prop) : PP := Runs (Ex d) prog_13_method_17_code 11 false 6 (some .int) none cp Post
theorem en_93 {d : Nat} {As : List Value} {S : Sto} {mc ms : Nat} {Post : Option Value → Sto → Prop} (hc : cats As ≤ 6) (h : RU_93 d (mc, ms) Post 0 (lv_args 0 As) [] S 0 0) : Ex (d + 1) 93 As S mc ms Post := ⟨by decide, hc, h⟩
def sg_94_0 : List RI := [(.bipush 24, 2, 0, 0, 0, 24), (.istore_n 2, 1, 0, 0, 0, 0)]
theorem sk_94_0 : segB 11 false prog_13_method_18_code 0 sg_94_0 = true := by decide +kernel
def sg_94_3 : List RI := [(.iload_n 2, 1, 0, 0, 0, 0)]
theorem sk_94_3 : segB 11 false prog_13_method_18_code 3 sg_94_3 = true := by decide +kernel
def sg_94_7 : List RI := [(.aload_n 0, 1, 0, 0, 0, 0), (.getfield 95, 3, 11, 31, 2, 0), (.aload_n 0, 1, 0, 0, 0, 0), (.getfield 183, 3, 11, 32, 0, 0), (.iload_n 1, 1, 0, 0, 0, 0), (.iload_n 2, 1, 0, 0, 0, 0), (.ishr, 1, 0, 0, 0, 0), (.i2b, 1, 0, 0, 0, 0)]
theorem sk_94_7 : segB 11 false prog_13_method_18_code 7 sg_94_7 = true := by decide +kernel
def sg_94_20 : List RI := [(.aload_n 0, 1, 0, 0, 0, 0), (.dup, 1, 0, 0, 0, 0), (.getfield 183, 3, 11, 32, 0, 0), (.iconst 1, 1, 0, 0, 0, 1), (.iadd, 1, 0, 0, 0, 0), (.putfield 183, 3, 11, 32, 0, 0), (.iinc 2 (-8), 3, 0, 0, 0, -8)]
theorem sk_94_20 : segB 11 false prog_13_method_18_code 20 sg_94_20 = true := by decide +kernel
theorem ck_94_4 : decode prog_13_method_18_code 4 = .ok (.ifCond .lt 32, 3) ∧ lnkB 11 false 4 (.ifCond .lt 32, 3, 36, 0, 0, 0) = true := by decide +kernel
theorem ca_94_19 : decode prog_13_method_18_code 19 = .ok (.bastore, 1) ∧ lnkB 11 false 19 (.bastore, 1, 12, 0, 0, 0) = true := by decide +kernel
theorem ck_94_33 : decode prog_13_method_18_code 33 = .ok (.goto (-30), 3) ∧ lnkB 11 false 33 (.goto (-30), 3, 3, 0, 0, 0) = true := by decide +kernel
theorem ck_94_36 : decode prog_13_method_18_code 36 = .ok (.return_, 1) ∧ lnkB 11 false 36 (.return_, 1, 0, 0, 0, 0) = true := by decide +kernel
abbrev RU_94 (d : Nat) (cp : Nat × Nat) (Post : Option Value → Sto → Prop) : PP := Runs (Ex d) prog_13_method_18_code 11 false 3 none none cp Post
theorem en_94 {d : Nat} {As : List Value} {S : Sto} {mc ms : Nat} {Post : Option Value → Sto → Prop} (hc : cats As ≤ 3) (h : RU_94 d (mc, ms) Post 0 (lv_args 0 As) [] S 0 0) : Ex (d + 1) 94 As S mc ms Post := ⟨by decide, hc, h⟩
def sg_95_0 : List RI := [(.iload_n 1, 1, 0, 0, 0, 0)]
theorem sk_95_0 : segB 11 false prog_13_method_19_code 0 sg_95_0 = true := by decide +kernel
def sg_95_4 : List RI := [(.iload_n 1, 1, 0, 0, 0, 0), (.aload_n 0, 1, 0, 0, 0, 0), (.getfield 183, 3, 11, 32, 0, 0)]
theorem sk_95_4 : segB 11 false prog_13_method_19_code 4 sg_95_4 = true := by decide +kernel
def sg_95_12 : List RI := [(.iconst (-1), 1, 0, 0, 0, -1)]
theorem sk_95_12 : segB 11 false prog_13_method_19_code 12 sg_95_12 = true := by decide +kernel
def sg_95_14 : List RI := [(.aload_n 0, 1, 0, 0, 0, 0), (.iload_n 1, 1, 0, 0, 0, 0), (.putfield 183, 3, 11, 32, 0, 0), (.iload_n 1, 1, 0, 0, 0, 0)]
theorem sk_95_14 : segB 11 false prog_13_method_19_code 14 sg_95_14 = true := by decide +kernel
theorem ck_95_1 : decode prog_13_method_19_code 1 = .ok (.ifCond .lt 11, 3) ∧ lnkB 11 false 1 (.ifCond .lt 11, 3, 12, 0, 0, 0) = true := by decide +kernel
theorem ck_95_9 : decode prog_13_method_19_code 9 = .ok (.if_icmp .le 5, 3) ∧ lnkB 11 false 9 (.if_icmp .le 5, 3, 14, 0, 0, 0) = true := by decide +kernel
theorem ck_95_13 : decode prog_13_method_19_code 13 = .ok (.ireturn, 1) ∧ lnkB 11 false 13 (.ireturn, 1, 0, 0, 0, 0) = true := by decide +kernel
theorem ck_95_20 : decode prog_13_method_19_code 20 = .ok (.ireturn, 1) ∧ lnkB 11 false 20 (.ireturn, 1, 0, 0, 0, 0) = true := by decide +kernel
abbrev RU_95 (d : Nat) (cp : Nat × Nat) (Post : Option Value → Sto → Prop) : PP := Runs (Ex d) prog_13_method_19_code 11 false 2 (some .int) none cp Post
theorem en_95 {d : Nat} {As : List Value} {S : Sto} {mc ms : Nat} {Post : Option Value → Sto → Prop} (hc : cats As ≤ 2) (h : RU_95 d (mc, ms) Post 0 (lv_args 0 As) [] S 0 0) : Ex (d + 1) 95 As S mc ms Post := ⟨by decide, hc, h⟩
def sg_96_0 : List RI := [(.iload_n 1, 1, 0, 0, 0, 0), (.iconst 0, 1, 0, 0, 0, 0), (.iconst 5, 1, 0, 0, 0, 5)]
theorem sk_96_0 : segB 11 false prog_13_method_25_code 0 sg_96_0 = true := by decide +kernel
def sg_96_9 : List RI := [(.iconst (-1), 1, 0, 0, 0, -1)]
theorem sk_96_9 : segB 11 false prog_13_method_25_code 9 sg_96_9 = true := by decide +kernel
def sg_96_11 : List RI := [(.aload_n 0, 1, 0, 0, 0, 0), (.iload_n 1, 1, 0, 0, 0, 0)]
theorem sk_96_11 : segB 11 false prog_13_method_25_code 11 sg_96_11 = true := by decide +kernel
def sg_96_16 : List RI := [(.aload_n 0, 1, 0, 0, 0, 0), (.getfield 192, 3, 11, 34, 0, 0)]
theorem sk_96_16 : segB 11 false prog_13_method_25_code 16 sg_96_16 = true := by decide +kernel
def sg_96_23 : List RI := [(.bipush (-2), 2, 0, 0, 0, -2), (.aload_n 0, 1, 0, 0, 0, 0), (.getfield 192, 3, 11, 34, 0, 0), (.isub, 1, 0, 0, 0, 0)]
theorem sk_96_23 : segB 11 false prog_13_method_25_code 23 sg_96_23 = true := by decide +kernel
def sg_96_31 : List RI := [(.aload_n 0, 1, 0, 0, 0, 0), (.lconst 0, 1, 0, 0, 0, 0)]
theorem sk_96_31 : segB 11 false prog_13_method_25_code 31 sg_96_31 = true := by decide +kernel
def sg_96_36 : List RI := [(.pop, 1, 0, 0, 0, 0), (.aload_n 0, 1, 0, 0, 0, 0), (.getfield 209, 3, 11, 43, 1, 0), (.ldc2_w 220, 3, 0, 0, 0, 2000000000), (.lcmp, 1, 0, 0, 0, 0)]
theorem sk_96_36 : segB 11 false prog_13_method_25_code 36 sg_96_36 = true := by decide +kernel
def sg_96_48 : List RI := [(.ldc 222, 2, 0, 0, 0, 2000000000)]
theorem sk_96_48 : segB 11 false prog_13_method_25_code 48 sg_96_48 = true := by decide +kernel
def sg_96_53 : List RI := [(.aload_n 0, 1, 0, 0, 0, 0), (.getfield 209, 3, 11, 43, 1, 0), (.l2i, 1, 0, 0, 0, 0)]
theorem sk_96_53 : segB 11 false prog_13_method_25_code 53 sg_96_53 = true := by decide +kernel
theorem ck_96_3 : decode prog_13_method_25_code 3 = .ok (.invokestatic 162, 3) ∧ lnkB 11 false 3 (.invokestatic 162, 3, 81, 0, 0, 0) = true := by decide +kernel
theorem ck_96_6 : decode prog_13_method_25_code 6 = .ok (.ifCond .ne 5, 3) ∧ lnkB 11 false 6 (.ifCond .ne 5, 3, 11, 0, 0, 0) = true := by decide +kernel
theorem ck_96_10 : decode prog_13_method_25_code 10 = .ok (.ireturn, 1) ∧ lnkB 11 false 10 (.ireturn, 1, 0, 0, 0, 0) = true := by decide +kernel
theorem ck_96_13 : decode prog_13_method_25_code 13 = .ok (.invokevirtual 213, 3) ∧ lnkB 11 false 13 (.invokevirtual 213, 3, 97, 0, 0, 0) = true := by decide +kernel
theorem ck_96_20 : decode prog_13_method_25_code 20 = .ok (.ifCond .le 11, 3) ∧ lnkB 11 false 20 (.ifCond .le 11, 3, 31, 0, 0, 0) = true := by decide +kernel
theorem ck_96_30 : decode prog_13_method_25_code 30 = .ok (.ireturn, 1) ∧ lnkB 11 false 30 (.ireturn, 1, 0, 0, 0, 0) = true := by decide +kernel
theorem ck_96_33 : decode prog_13_method_25_code 33 = .ok (.invokevirtual 216, 3) ∧ lnkB 11 false 33 (.invokevirtual 216, 3, 101, 0, 0, 0) = true := by decide +kernel
theorem ck_96_45 : decode prog_13_method_25_code 45 = .ok (.ifCond .le 8, 3) ∧ lnkB 11 false 45 (.ifCond .le 8, 3, 53, 0, 0, 0) = true := by decide +kernel
theorem ck_96_50 : decode prog_13_method_25_code 50 = .ok (.goto 8, 3) ∧ lnkB 11 false 50 (.goto 8, 3, 58, 0, 0, 0) = true := by decide +kernel
theorem ck_96_58 : decode prog_13_method_25_code 58 = .ok (.ireturn, 1) ∧ lnkB 11 false 58 (.ireturn, 1, 0, 0, 0, 0) = true := by decide +kernel
abbrev RU_96 (d : Nat) (cp : Nat × Nat) (Post : Option Value → Sto → Prop) : PP := Runs (Ex d) prog_13_method_25_code 11 false 2 (some .int) none cp Post
theorem en_96 {d : Nat} {As : List Value} {S : Sto} {mc ms : Nat} {Post : Option Value → Sto → Prop} (hc : cats As ≤ 2) (h : RU_96 d (mc, ms) Post 0 (lv_args 0 As) [] S 0 0) : Ex (d + 1) 96 As S mc ms Post := ⟨by decide, hc, h⟩
def sg_97_0 : List RI := [(.aload_n 0, 1, 0, 0, 0, 0), (.iconst 0, 1, 0, 0, 0, 0), (.putfield 189, 3, 11, 33, 0, 0), (.aload_n 0, 1, 0, 0, 0, 0), (.iconst 0, 1, 0, 0, 0, 0), (.putfield 192, 3, 11, 34, 0, 0), (.aload_n 0, 1, 0, 0, 0, 0), (.iconst 0, 1, 0, 0, 0, 0), (.putfield 195, 3, 11, 35, 0, 0), (.aload_n 0, 1, 0, 0, 0, 0)]
theorem sk_97_0 : segB 11 false prog_13_method_23_code 0 sg_97_0 = true := by decide +kernel
def sg_97_19 : List RI := [(.bipush 123, 2, 0, 0, 0, 123)]
theorem sk_97_19 : segB 11 false prog_13_method_23_code 19 sg_97_19 = true := by decide +kernel
def sg_97_24 : List RI := [(.aload_n 0, 1, 0, 0, 0, 0), (.iconst 0, 1, 0, 0, 0, 0), (.aload_n 0, 1, 0, 0, 0, 0), (.getfield 189, 3, 11, 33, 0, 0)]
theorem sk_97_24 : segB 11 false prog_13_method_23_code 24 sg_97_24 = true := by decide +kernel
def sg_97_34 : List RI := [(.aload_n 0, 1, 0, 0, 0, 0), (.iload_n 1, 1, 0, 0, 0, 0), (.lconst 1, 1, 0, 0, 0, 1), (.iconst 0, 1, 0, 0, 0, 0)]
theorem sk_97_34 : segB 11 false prog_13_method_23_code 34 sg_97_34 = true := by decide +kernel
def sg_97_41 : List RI := [(.iconst 1, 1, 0, 0, 0, 1), (.istore_n 2, 1, 0, 0, 0, 0)]
theorem sk_97_41 : segB 11 false prog_13_method_23_code 41 sg_97_41 = true := by decide +kernel
def sg_97_43 : List RI := [(.aload_n 0, 1, 0, 0, 0, 0), (.getfield 192, 3, 11, 34, 0, 0)]
theorem sk_97_43 : segB 11 false prog_13_method_23_code 43 sg_97_43 = true := by decide +kernel
def sg_97_50 : List RI := [(.iload_n 2, 1, 0, 0, 0, 0)]
theorem sk_97_50 : segB 11 false prog_13_method_23_code 50 sg_97_50 = true := by decide +kernel
def sg_97_54 : List RI := [(.aload_n 0, 1, 0, 0, 0, 0), (.getfield 118, 3, 11, 42, 2, 0), (.iload_n 2, 1, 0, 0, 0, 0), (.iconst 1, 1, 0, 0, 0, 1), (.isub, 1, 0, 0, 0, 0)]
theorem sk_97_54 : segB 11 false prog_13_method_23_code 54 sg_97_54 = true := by decide +kernel
def sg_97_62 : List RI := [(.istore_n 3, 1, 0, 0, 0, 0), (.aload_n 0, 1, 0, 0, 0, 0)]
theorem sk_97_62 : segB 11 false prog_13_method_23_code 62 sg_97_62 = true := by decide +kernel
def sg_97_67 : List RI := [(.istore 4, 2, 0, 0, 0, 0), (.iload 4, 2, 0, 0, 0, 0), (.bipush 125, 2, 0, 0, 0, 125)]
theorem sk_97_67 : segB 11 false prog_13_method_23_code 67 sg_97_67 = true := by decide +kernel
def sg_97_76 : List RI := [(.aload_n 0, 1, 0, 0, 0, 0), (.getfield 105, 3, 11, 38, 2, 0), (.iload_n 3, 1, 0, 0, 0, 0)]
theorem sk_97_76 : segB 11 false prog_13_method_23_code 76 sg_97_76 = true := by decide +kernel
def sg_97_85 : List RI := [(.iinc 2 (-1), 3, 0, 0, 0, -1), (.aload_n 0, 1, 0, 0, 0, 0), (.dup, 1, 0, 0, 0, 0), (.getfield 189, 3, 11, 33, 0, 0), (.iconst 1, 1, 0, 0, 0, 1), (.iadd, 1, 0, 0, 0, 0), (.putfield 189, 3, 11, 33, 0, 0)]
theorem sk_97_85 : segB 11 false prog_13_method_23_code 85 sg_97_85 = true := by decide +kernel
def sg_97_101 : List RI := [(.iload 4, 2, 0, 0, 0, 0), (.bipush 48, 2, 0, 0, 0, 48)]
theorem sk_97_101 : segB 11 false prog_13_method_23_code 101 sg_97_101 = true := by decide +kernel
def sg_97_108 : List RI := [(.iload 4, 2, 0, 0, 0, 0), (.bipush 51, 2, 0, 0, 0, 51)]
theorem sk_97_108 : segB 11 false prog_13_method_23_code 108 sg_97_108 = true := by decide +kernel
def sg_97_115 : List RI := [(.aload_n 0, 1, 0, 0, 0, 0), (.iconst 0, 1, 0, 0, 0, 0), (.aload_n 0, 1, 0, 0, 0, 0), (.getfield 189, 3, 11, 33, 0, 0)]
theorem sk_97_115 : segB 11 false prog_13_method_23_code 115 sg_97_115 = true := by decide +kernel
def sg_97_127 : List RI := [(.aload_n 0, 1, 0, 0, 0, 0), (.getfield 105, 3, 11, 38, 2, 0), (.iload_n 3, 1, 0, 0, 0, 0)]
theorem sk_97_127 : segB 11 false prog_13_method_23_code 127 sg_97_127 = true := by decide +kernel
def sg_97_133 : List RI := [(.bipush 6, 2, 0, 0, 0, 6)]
theorem sk_97_133 : segB 11 false prog_13_method_23_code 133 sg_97_133 = true := by decide +kernel
def sg_97_138 : List RI := [(.aload_n 0, 1, 0, 0, 0, 0), (.iconst 2, 1, 0, 0, 0, 2), (.aload_n 0, 1, 0, 0, 0, 0), (.getfield 189, 3, 11, 33, 0, 0)]
theorem sk_97_138 : segB 11 false prog_13_method_23_code 138 sg_97_138 = true := by decide +kernel
def sg_97_150 : List RI := [(.iconst 4, 1, 0, 0, 0, 4), (.aload_n 0, 1, 0, 0, 0, 0), (.getfield 99, 3, 11, 36, 2, 0), (.iload_n 3, 1, 0, 0, 0, 0)]
theorem sk_97_150 : segB 11 false prog_13_method_23_code 150 sg_97_150 = true := by decide +kernel
def sg_97_157 : List RI := [(.imul, 1, 0, 0, 0, 0), (.iload 4, 2, 0, 0, 0, 0), (.iadd, 1, 0, 0, 0, 0), (.bipush 48, 2, 0, 0, 0, 48), (.isub, 1, 0, 0, 0, 0), (.istore 5, 2, 0, 0, 0, 0), (.bipush 6, 2, 0, 0, 0, 6), (.iload_n 3, 1, 0, 0, 0, 0), (.imul, 1, 0, 0, 0, 0), (.aload_n 0, 1, 0, 0, 0, 0), (.getfield 105, 3, 11, 38, 2, 0), (.iload_n 3, 1, 0, 0, 0, 0)]
theorem sk_97_157 : segB 11 false prog_13_method_23_code 157 sg_97_157 = true := by decide +kernel
def sg_97_176 : List RI := [(.iadd, 1, 0, 0, 0, 0), (.istore 6, 2, 0, 0, 0, 0), (.aload_n 0, 1, 0, 0, 0, 0), (.getfield 108, 3, 11, 39, 2, 0), (.iload 6, 2, 0, 0, 0, 0), (.iload 4, 2, 0, 0, 0, 0), (.bipush 48, 2, 0, 0, 0, 48), (.isub, 1, 0, 0, 0, 0)]
theorem sk_97_176 : segB 11 false prog_13_method_23_code 176 sg_97_176 = true := by decide +kernel
def sg_97_191 : List RI := [(.aload_n 0, 1, 0, 0, 0, 0), (.getfield 111, 3, 11, 40, 2, 0), (.iload 6, 2, 0, 0, 0, 0), (.iconst (-1), 1, 0, 0, 0, -1)]
theorem sk_97_191 : segB 11 false prog_13_method_23_code 191 sg_97_191 = true := by decide +kernel
def sg_97_199 : List RI := [(.aload_n 0, 1, 0, 0, 0, 0), (.getfield 105, 3, 11, 38, 2, 0), (.iload_n 3, 1, 0, 0, 0, 0), (.dup2, 1, 0, 0, 0, 0)]
theorem sk_97_199 : segB 11 false prog_13_method_23_code 199 sg_97_199 = true := by decide +kernel
def sg_97_206 : List RI := [(.iconst 1, 1, 0, 0, 0, 1), (.iadd, 1, 0, 0, 0, 0)]
theorem sk_97_206 : segB 11 false prog_13_method_23_code 206 sg_97_206 = true := by decide +kernel
def sg_97_209 : List RI := [(.aload_n 0, 1, 0, 0, 0, 0), (.dup, 1, 0, 0, 0, 0), (.getfield 189, 3, 11, 33, 0, 0), (.iconst 1, 1, 0, 0, 0, 1), (.iadd, 1, 0, 0, 0, 0), (.putfield 189, 3, 11, 33, 0, 0), (.aload_n 0, 1, 0, 0, 0, 0), (.getfield 52, 3, 11, 17, 2, 0), (.iload 5, 2, 0, 0, 0, 0)]
theorem sk_97_209 : segB 11 false prog_13_method_23_code 209 sg_97_209 = true := by decide +kernel
def sg_97_229 : List RI := [(.aload_n 0, 1, 0, 0, 0, 0)]
theorem sk_97_229 : segB 11 false prog_13_method_23_code 229 sg_97_229 = true := by decide +kernel
def sg_97_233 : List RI := [(.bipush 123, 2, 0, 0, 0, 123)]
theorem sk_97_233 : segB 11 false prog_13_method_23_code 233 sg_97_233 = true := by decide +kernel
def sg_97_238 : List RI := [(.aload_n 0, 1, 0, 0, 0, 0), (.iconst 0, 1, 0, 0, 0, 0), (.aload_n 0, 1, 0, 0, 0, 0), (.getfield 189, 3, 11, 33, 0, 0)]
theorem sk_97_238 : segB 11 false prog_13_method_23_code 238 sg_97_238 = true := by decide +kernel
def sg_97_250 : List RI := [(.aload_n 0, 1, 0, 0, 0, 0), (.getfield 111, 3, 11, 40, 2, 0), (.iload 6, 2, 0, 0, 0, 0), (.aload_n 0, 1, 0, 0, 0, 0), (.getfield 195, 3, 11, 35, 0, 0)]
theorem sk_97_250 : segB 11 false prog_13_method_23_code 250 sg_97_250 = true := by decide +kernel
def sg_97_261 : List RI := [(.aload_n 0, 1, 0, 0, 0, 0), (.aload_n 0, 1, 0, 0, 0, 0), (.getfield 55, 3, 11, 18, 2, 0), (.iload 5, 2, 0, 0, 0, 0)]
theorem sk_97_261 : segB 11 false prog_13_method_23_code 261 sg_97_261 = true := by decide +kernel
def sg_97_269 : List RI := [(.aload_n 0, 1, 0, 0, 0, 0), (.getfield 114, 3, 11, 41, 2, 0), (.iload_n 3, 1, 0, 0, 0, 0)]
theorem sk_97_269 : segB 11 false prog_13_method_23_code 269 sg_97_269 = true := by decide +kernel
def sg_97_275 : List RI := [(.aload_n 0, 1, 0, 0, 0, 0), (.getfield 52, 3, 11, 17, 2, 0), (.iload 5, 2, 0, 0, 0, 0)]
theorem sk_97_275 : segB 11 false prog_13_method_23_code 275 sg_97_275 = true := by decide +kernel
def sg_97_282 : List RI := [(.iconst 2, 1, 0, 0, 0, 2)]
theorem sk_97_282 : segB 11 false prog_13_method_23_code 282 sg_97_282 = true := by decide +kernel
def sg_97_286 : List RI := [(.aload_n 0, 1, 0, 0, 0, 0), (.getfield 58, 3, 11, 19, 2, 0), (.iload 5, 2, 0, 0, 0, 0)]
theorem sk_97_286 : segB 11 false prog_13_method_23_code 286 sg_97_286 = true := by decide +kernel
def sg_97_296 : List RI := [(.iconst 1, 1, 0, 0, 0, 1)]
theorem sk_97_296 : segB 11 false prog_13_method_23_code 296 sg_97_296 = true := by decide +kernel
def sg_97_297 : List RI := [(.i2l, 1, 0, 0, 0, 0), (.lmul, 1, 0, 0, 0, 0), (.iload_n 2, 1, 0, 0, 0, 0)]
theorem sk_97_297 : segB 11 false prog_13_method_23_code 297 sg_97_297 = true := by decide +kernel
def sg_97_303 : List RI := [(.iinc 2 1, 3, 0, 0, 0, 1)]
theorem sk_97_303 : segB 11 false prog_13_method_23_code 303 sg_97_303 = true := by decide +kernel
def sg_97_309 : List RI := [(.aload_n 0, 1, 0, 0, 0, 0), (.getfield 192, 3, 11, 34, 0, 0)]
theorem sk_97_309 : segB 11 false prog_13_method_23_code 309 sg_97_309 = true := by decide +kernel
def sg_97_316 : List RI := [(.aload_n 0, 1, 0, 0, 0, 0)]
theorem sk_97_316 : segB 11 false prog_13_method_23_code 316 sg_97_316 = true := by decide +kernel
def sg_97_320 : List RI := [(.iconst (-1), 1, 0, 0, 0, -1)]
theorem sk_97_320 : segB 11 false prog_13_method_23_code 320 sg_97_320 = true := by decide +kernel
def sg_97_324 : List RI := [(.aload_n 0, 1, 0, 0, 0, 0), (.iconst 0, 1, 0, 0, 0, 0), (.aload_n 0, 1, 0, 0, 0, 0), (.getfield 189, 3, 11, 33, 0, 0)]
theorem sk_97_324 : segB 11 false prog_13_method_23_code 324 sg_97_324 = true := by decide +kernel
theorem ck_97_16 : decode prog_13_method_23_code 16 = .ok (.invokevirtual 201, 3) ∧ lnkB 11 false 16 (.invokevirtual 201, 3, 98, 0, 0, 0) = true := by decide +kernel
theorem ck_97_21 : decode prog_13_method_23_code 21 = .ok (.if_icmp .eq 13, 3) ∧ lnkB 11 false 21 (.if_icmp .eq 13, 3, 34, 0, 0, 0) = true := by decide +kernel
theorem ck_97_30 : decode prog_13_method_23_code 30 = .ok (.invokevirtual 198, 3) ∧ lnkB 11 false 30 (.invokevirtual 198, 3, 99, 0, 0, 0) = true := by decide +kernel
theorem ck_97_33 : decode prog_13_method_23_code 33 = .ok (.return_, 1) ∧ lnkB 11 false 33 (.return_, 1, 0, 0, 0, 0) = true := by decide +kernel
theorem ck_97_38 : decode prog_13_method_23_code 38 = .ok (.invokevirtual 205, 3) ∧ lnkB 11 false 38 (.invokevirtual 205, 3, 100, 0, 0, 0) = true := by decide +kernel
theorem ck_97_47 : decode prog_13_method_23_code 47 = .ok (.ifCond .ne 262, 3) ∧ lnkB 11 false 47 (.ifCond .ne 262, 3, 309, 0, 0, 0) = true := by decide +kernel
theorem ck_97_51 : decode prog_13_method_23_code 51 = .ok (.ifCond .le 258, 3) ∧ lnkB 11 false 51 (.ifCond .le 258, 3, 309, 0, 0, 0) = true := by decide +kernel
theorem ca_97_61 : decode prog_13_method_23_code 61 = .ok (.iaload, 1) ∧ lnkB 11 false 61 (.iaload, 1, 0, 0, 0, 0) = true := by decide +kernel
theorem ck_97_64 : decode prog_13_method_23_code 64 = .ok (.invokevirtual 201, 3) ∧ lnkB 11 false 64 (.invokevirtual 201, 3, 98, 0, 0, 0) = true := by decide +kernel
theorem ck_97_73 : decode prog_13_method_23_code 73 = .ok (.if_icmp .ne 28, 3) ∧ lnkB 11 false 73 (.if_icmp .ne 28, 3, 101, 0, 0, 0) = true := by decide +kernel
theorem ca_97_81 : decode prog_13_method_23_code 81 = .ok (.iaload, 1) ∧ lnkB 11 false 81 (.iaload, 1, 0, 0, 0, 0) = true := by decide +kernel
theorem ck_97_82 : decode prog_13_method_23_code 82 = .ok (.ifCond .le 19, 3) ∧ lnkB 11 false 82 (.ifCond .le 19, 3, 101, 0, 0, 0) = true := by decide +kernel
theorem ck_97_98 : decode prog_13_method_23_code 98 = .ok (.goto 208, 3) ∧ lnkB 11 false 98 (.goto 208, 3, 306, 0, 0, 0) = true := by decide +kernel
theorem ck_97_105 : decode prog_13_method_23_code 105 = .ok (.if_icmp .lt 10, 3) ∧ lnkB 11 false 105 (.if_icmp .lt 10, 3, 115, 0, 0, 0) = true := by decide +kernel
theorem ck_97_112 : decode prog_13_method_23_code 112 = .ok (.if_icmp .le 15, 3) ∧ lnkB 11 false 112 (.if_icmp .le 15, 3, 127, 0, 0, 0) = true := by decide +kernel
theorem ck_97_121 : decode prog_13_method_23_code 121 = .ok (.invokevirtual 198, 3) ∧ lnkB 11 false 121 (.invokevirtual 198, 3, 99, 0, 0, 0) = true := by decide +kernel
theorem ck_97_124 : decode prog_13_method_23_code 124 = .ok (.goto 182, 3) ∧ lnkB 11 false 124 (.goto 182, 3, 306, 0, 0, 0) = true := by decide +kernel
theorem ca_97_132 : decode prog_13_method_23_code 132 = .ok (.iaload, 1) ∧ lnkB 11 false 132 (.iaload, 1, 0, 0, 0, 0) = true := by decide +kernel
theorem ck_97_135 : decode prog_13_method_23_code 135 = .ok (.if_icmp .ne 15, 3) ∧ lnkB 11 false 135 (.if_icmp .ne 15, 3, 150, 0, 0, 0) = true := by decide +kernel
theorem ck_97_144 : decode prog_13_method_23_code 144 = .ok (.invokevirtual 198, 3) ∧ lnkB 11 false 144 (.invokevirtual 198, 3, 99, 0, 0, 0) = true := by decide +kernel
theorem ck_97_147 : decode prog_13_method_23_code 147 = .ok (.goto 159, 3) ∧ lnkB 11 false 147 (.goto 159, 3, 306, 0, 0, 0) = true := by decide +kernel
theorem ca_97_156 : decode prog_13_method_23_code 156 = .ok (.iaload, 1) ∧ lnkB 11 false 156 (.iaload, 1, 0, 0, 0, 0) = true := by decide +kernel
theorem ca_97_175 : decode prog_13_method_23_code 175 = .ok (.iaload, 1) ∧ lnkB 11 false 175 (.iaload, 1, 0, 0, 0, 0) = true := by decide +kernel
theorem ca_97_190 : decode prog_13_method_23_code 190 = .ok (.iastore, 1) ∧ lnkB 11 false 190 (.iastore, 1, 0, 0, 0, 0) = true := by decide +kernel
theorem ca_97_198 : decode prog_13_method_23_code 198 = .ok (.iastore, 1) ∧ lnkB 11 false 198 (.iastore, 1, 0, 0, 0, 0) = true := by decide +kernel
theorem ca_97_205 : decode prog_13_method_23_code 205 = .ok (.iaload, 1) ∧ lnkB 11 false 205 (.iaload, 1, 0, 0, 0, 0) = true := by decide +kernel
theorem ca_97_208 : decode prog_13_method_23_code 208 = .ok (.iastore, 1) ∧ lnkB 11 false 208 (.iastore, 1, 0, 0, 0, 0) = true := by decide +kernel
theorem ca_97_225 : decode prog_13_method_23_code 225 = .ok (.iaload, 1) ∧ lnkB 11 false 225 (.iaload, 1, 0, 0, 0, 0) = true := by decide +kernel
theorem ck_97_226 : decode prog_13_method_23_code 226 = .ok (.ifCond .eq 80, 3) ∧ lnkB 11 false 226 (.ifCond .eq 80, 3, 306, 0, 0, 0) = true := by decide +kernel
theorem ck_97_230 : decode prog_13_method_23_code 230 = .ok (.invokevirtual 201, 3) ∧ lnkB 11 false 230 (.invokevirtual 201, 3, 98, 0, 0, 0) = true := by decide +kernel
theorem ck_97_235 : decode prog_13_method_23_code 235 = .ok (.if_icmp .eq 15, 3) ∧ lnkB 11 false 235 (.if_icmp .eq 15, 3, 250, 0, 0, 0) = true := by decide +kernel
theorem ck_97_244 : decode prog_13_method_23_code 244 = .ok (.invokevirtual 198, 3) ∧ lnkB 11 false 244 (.invokevirtual 198, 3, 99, 0, 0, 0) = true := by decide +kernel
theorem ck_97_247 : decode prog_13_method_23_code 247 = .ok (.goto 59, 3) ∧ lnkB 11 false 247 (.goto 59, 3, 306, 0, 0, 0) = true := by decide +kernel
theorem ca_97_260 : decode prog_13_method_23_code 260 = .ok (.iastore, 1) ∧ lnkB 11 false 260 (.iastore, 1, 0, 0, 0, 0) = true := by decide +kernel
theorem ca_97_268 : decode prog_13_method_23_code 268 = .ok (.iaload, 1) ∧ lnkB 11 false 268 (.iaload, 1, 0, 0, 0, 0) = true := by decide +kernel
theorem ca_97_274 : decode prog_13_method_23_code 274 = .ok (.laload, 1) ∧ lnkB 11 false 274 (.laload, 1, 0, 0, 0, 0) = true := by decide +kernel
theorem ca_97_281 : decode prog_13_method_23_code 281 = .ok (.iaload, 1) ∧ lnkB 11 false 281 (.iaload, 1, 0, 0, 0, 0) = true := by decide +kernel
theorem ck_97_283 : decode prog_13_method_23_code 283 = .ok (.if_icmp .ne 13, 3) ∧ lnkB 11 false 283 (.if_icmp .ne 13, 3, 296, 0, 0, 0) = true := by decide +kernel
theorem ca_97_292 : decode prog_13_method_23_code 292 = .ok (.iaload, 1) ∧ lnkB 11 false 292 (.iaload, 1, 0, 0, 0, 0) = true := by decide +kernel
theorem ck_97_293 : decode prog_13_method_23_code 293 = .ok (.goto 4, 3) ∧ lnkB 11 false 293 (.goto 4, 3, 297, 0, 0, 0) = true := by decide +kernel
theorem ck_97_300 : decode prog_13_method_23_code 300 = .ok (.invokevirtual 205, 3) ∧ lnkB 11 false 300 (.invokevirtual 205, 3, 100, 0, 0, 0) = true := by decide +kernel
theorem ck_97_306 : decode prog_13_method_23_code 306 = .ok (.goto (-263), 3) ∧ lnkB 11 false 306 (.goto (-263), 3, 43, 0, 0, 0) = true := by decide +kernel
theorem ck_97_313 : decode prog_13_method_23_code 313 = .ok (.ifCond .ne 20, 3) ∧ lnkB 11 false 313 (.ifCond .ne 20, 3, 333, 0, 0, 0) = true := by decide +kernel
theorem ck_97_317 : decode prog_13_method_23_code 317 = .ok (.invokevirtual 201, 3) ∧ lnkB 11 false 317 (.invokevirtual 201, 3, 98, 0, 0, 0) = true := by decide +kernel
theorem ck_97_321 : decode prog_13_method_23_code 321 = .ok (.if_icmp .eq 12, 3) ∧ lnkB 11 false 321 (.if_icmp .eq 12, 3, 333, 0, 0, 0) = true := by decide +kernel
theorem ck_97_330 : decode prog_13_method_23_code 330 = .ok (.invokevirtual 198, 3) ∧ lnkB 11 false 330 (.invokevirtual 198, 3, 99, 0, 0, 0) = true := by decide +kernel
theorem ck_97_333 : decode prog_13_method_23_code 333 = .ok (.return_, 1) ∧ lnkB 11 false 333 (.return_, 1, 0, 0, 0, 0) = true := by decide +kernel
abbrev RU_97 (d : Nat) (cp : Nat × Nat) (Post : Option Value → Sto → Prop) : PP := Runs (Ex d) prog_13_method_23_code 11 false 7 none none cp Post
theorem en_97 {d : Nat} {As : List Value} {S : Sto} {mc ms : Nat} {Post : Option Value → Sto → Prop} (hc : cats As ≤ 7) (h : RU_97 d (mc, ms) Post 0 (lv_args 0 As) [] S 0 0) : Ex (d + 1) 97 As S mc ms Post := ⟨by decide, hc, h⟩
def sg_98_0 : List RI := [(.aload_n 0, 1, 0, 0, 0, 0), (.getfield 189, 3, 11, 33, 0, 0), (.aload_n 0, 1, 0, 0, 0, 0), (.getfield 183, 3, 11, 32, 0, 0)]
theorem sk_98_0 : segB 11 false prog_13_method_20_code 0 sg_98_0 = true := by decide +kernel
def sg_98_11 : List RI := [(.aload_n 0, 1, 0, 0, 0, 0), (.getfield 95, 3, 11, 31, 2, 0), (.aload_n 0, 1, 0, 0, 0, 0), (.getfield 189, 3, 11, 33, 0, 0)]
theorem sk_98_11 : segB 11 false prog_13_method_20_code 11 sg_98_11 = true := by decide +kernel
def sg_98_20 : List RI := [(.bipush 32, 2, 0, 0, 0, 32)]
theorem sk_98_20 : segB 11 false prog_13_method_20_code 20 sg_98_20 = true := by decide +kernel
def sg_98_25 : List RI := [(.aload_n 0, 1, 0, 0, 0, 0), (.dup, 1, 0, 0, 0, 0), (.getfield 189, 3, 11, 33, 0, 0), (.iconst 1, 1, 0, 0, 0, 1), (.iadd, 1, 0, 0, 0, 0), (.putfield 189, 3, 11, 33, 0, 0)]
theorem sk_98_25 : segB 11 false prog_13_method_20_code 25 sg_98_25 = true := by decide +kernel
def sg_98_38 : List RI := [(.aload_n 0, 1, 0, 0, 0, 0), (.getfield 189, 3, 11, 33, 0, 0), (.aload_n 0, 1, 0, 0, 0, 0), (.getfield 183, 3, 11, 32, 0, 0)]
theorem sk_98_38 : segB 11 false prog_13_method_20_code 38 sg_98_38 = true := by decide +kernel
def sg_98_49 : List RI := [(.iconst (-1), 1, 0, 0, 0, -1)]
theorem sk_98_49 : segB 11 false prog_13_method_20_code 49 sg_98_49 = true := by decide +kernel
def sg_98_53 : List RI := [(.aload_n 0, 1, 0, 0, 0, 0), (.getfield 95, 3, 11, 31, 2, 0), (.aload_n 0, 1, 0, 0, 0, 0), (.getfield 189, 3, 11, 33, 0, 0)]
theorem sk_98_53 : segB 11 false prog_13_method_20_code 53 sg_98_53 = true := by decide +kernel
def sg_98_62 : List RI := [(.sipush 255, 3, 0, 0, 0, 255), (.iand, 1, 0, 0, 0, 0)]
theorem sk_98_62 : segB 11 false prog_13_method_20_code 62 sg_98_62 = true := by decide +kernel
theorem ck_98_8 : decode prog_13_method_20_code 8 = .ok (.if_icmp .ge 30, 3) ∧ lnkB 11 false 8 (.if_icmp .ge 30, 3, 38, 0, 0, 0) = true := by decide +kernel
theorem ca_98_19 : decode prog_13_method_20_code 19 = .ok (.baload, 1) ∧ lnkB 11 false 19 (.baload, 1, 12, 0, 0, 0) = true := by decide +kernel
theorem ck_98_22 : decode prog_13_method_20_code 22 = .ok (.if_icmp .ne 16, 3) ∧ lnkB 11 false 22 (.if_icmp .ne 16, 3, 38, 0, 0, 0) = true := by decide +kernel
theorem ck_98_35 : decode prog_13_method_20_code 35 = .ok (.goto (-35), 3) ∧ lnkB 11 false 35 (.goto (-35), 3, 0, 0, 0, 0) = true := by decide +kernel
theorem ck_98_46 : decode prog_13_method_20_code 46 = .ok (.if_icmp .ne 7, 3) ∧ lnkB 11 false 46 (.if_icmp .ne 7, 3, 53, 0, 0, 0) = true := by decide +kernel
theorem ck_98_50 : decode prog_13_method_20_code 50 = .ok (.goto 16, 3) ∧ lnkB 11 false 50 (.goto 16, 3, 66, 0, 0, 0) = true := by decide +kernel
theorem ca_98_61 : decode prog_13_method_20_code 61 = .ok (.baload, 1) ∧ lnkB 11 false 61 (.baload, 1, 12, 0, 0, 0) = true := by decide +kernel
theorem ck_98_66 : decode prog_13_method_20_code 66 = .ok (.ireturn, 1) ∧ lnkB 11 false 66 (.ireturn, 1, 0, 0, 0, 0) = true := by decide +kernel
abbrev RU_98 (d : Nat) (cp : Nat × Nat) (Post : Option Value → Sto → Prop) : PP := Runs (Ex d) prog_13_method_20_code 11 false 1 (some .int) none cp Post
theorem en_98 {d : Nat} {As : List Value} {S : Sto} {mc ms : Nat} {Post : Option Value → Sto → Prop} (hc : cats As ≤ 1) (h : RU_98 d (mc, ms) Post 0 (lv_args 0 As) [] S 0 0) : Ex (d + 1) 98 As S mc ms Post := ⟨by decide, hc, h⟩
def sg_99_0 : List RI := [(.aload_n 0, 1, 0, 0, 0, 0), (.getfield 192, 3, 11, 34, 0, 0)]
theorem sk_99_0 : segB 11 false prog_13_method_21_code 0 sg_99_0 = true := by decide +kernel
def sg_99_7 : List RI := [(.aload_n 0, 1, 0, 0, 0, 0), (.iconst 1, 1, 0, 0, 0, 1), (.iconst 4, 1, 0, 0, 0, 4), (.iload_n 2, 1, 0, 0, 0, 0), (.imul, 1, 0, 0, 0, 0), (.iadd, 1, 0, 0, 0, 0), (.iload_n 1, 1, 0, 0, 0, 0), (.iadd, 1, 0, 0, 0, 0), (.putfield 192, 3, 11, 34, 0, 0)]
theorem sk_99_7 : segB 11 false prog_13_method_21_code 7 sg_99_7 = true := by decide +kernel
theorem ck_99_4 : decode prog_13_method_21_code 4 = .ok (.ifCond .ne 14, 3) ∧ lnkB 11 false 4 (.ifCond .ne 14, 3, 18, 0, 0, 0) = true := by decide +kernel
theorem ck_99_18 : decode prog_13_method_21_code 18 = .ok (.return_, 1) ∧ lnkB 11 false 18 (.return_, 1, 0, 0, 0, 0) = true := by decide +kernel
abbrev RU_99 (d : Nat) (cp : Nat × Nat) (Post : Option Value → Sto → Prop) : PP := Runs (Ex d) prog_13_method_21_code 11 false 3 none none cp Post
theorem en_99 {d : Nat} {As : List Value} {S : Sto} {mc ms : Nat} {Post : Option Value → Sto → Prop} (hc : cats As ≤ 3) (h : RU_99 d (mc, ms) Post 0 (lv_args 0 As) [] S 0 0) : Ex (d + 1) 99 As S mc ms Post := ⟨by decide, hc, h⟩
def sg_100_0 : List RI := [(.aload_n 0, 1, 0, 0, 0, 0), (.getfield 195, 3, 11, 35, 0, 0), (.bipush 20, 2, 0, 0, 0, 20)]
theorem sk_100_0 : segB 11 false prog_13_method_22_code 0 sg_100_0 = true := by decide +kernel
def sg_100_9 : List RI := [(.iload 4, 2, 0, 0, 0, 0), (.iconst 5, 1, 0, 0, 0, 5)]
theorem sk_100_9 : segB 11 false prog_13_method_22_code 9 sg_100_9 = true := by decide +kernel
def sg_100_15 : List RI := [(.aload_n 0, 1, 0, 0, 0, 0), (.iconst 1, 1, 0, 0, 0, 1), (.aload_n 0, 1, 0, 0, 0, 0), (.getfield 189, 3, 11, 33, 0, 0)]
theorem sk_100_15 : segB 11 false prog_13_method_22_code 15 sg_100_15 = true := by decide +kernel
def sg_100_25 : List RI := [(.aload_n 0, 1, 0, 0, 0, 0), (.getfield 99, 3, 11, 36, 2, 0), (.aload_n 0, 1, 0, 0, 0, 0), (.getfield 195, 3, 11, 35, 0, 0), (.iload_n 1, 1, 0, 0, 0, 0)]
theorem sk_100_25 : segB 11 false prog_13_method_22_code 25 sg_100_25 = true := by decide +kernel
def sg_100_35 : List RI := [(.aload_n 0, 1, 0, 0, 0, 0), (.getfield 102, 3, 11, 37, 2, 0), (.aload_n 0, 1, 0, 0, 0, 0), (.getfield 195, 3, 11, 35, 0, 0), (.aload_n 0, 1, 0, 0, 0, 0), (.getfield 189, 3, 11, 33, 0, 0)]
theorem sk_100_35 : segB 11 false prog_13_method_22_code 35 sg_100_35 = true := by decide +kernel
def sg_100_48 : List RI := [(.aload_n 0, 1, 0, 0, 0, 0), (.getfield 105, 3, 11, 38, 2, 0), (.aload_n 0, 1, 0, 0, 0, 0), (.getfield 195, 3, 11, 35, 0, 0), (.iconst 0, 1, 0, 0, 0, 0)]
theorem sk_100_48 : segB 11 false prog_13_method_22_code 48 sg_100_48 = true := by decide +kernel
def sg_100_58 : List RI := [(.aload_n 0, 1, 0, 0, 0, 0), (.getfield 114, 3, 11, 41, 2, 0), (.aload_n 0, 1, 0, 0, 0, 0), (.getfield 195, 3, 11, 35, 0, 0), (.lload_n 2, 1, 0, 0, 0, 0)]
theorem sk_100_58 : segB 11 false prog_13_method_22_code 58 sg_100_58 = true := by decide +kernel
def sg_100_68 : List RI := [(.aload_n 0, 1, 0, 0, 0, 0), (.getfield 118, 3, 11, 42, 2, 0), (.iload 4, 2, 0, 0, 0, 0), (.aload_n 0, 1, 0, 0, 0, 0), (.getfield 195, 3, 11, 35, 0, 0)]
theorem sk_100_68 : segB 11 false prog_13_method_22_code 68 sg_100_68 = true := by decide +kernel
def sg_100_79 : List RI := [(.aload_n 0, 1, 0, 0, 0, 0), (.dup, 1, 0, 0, 0, 0), (.getfield 195, 3, 11, 35, 0, 0), (.iconst 1, 1, 0, 0, 0, 1), (.iadd, 1, 0, 0, 0, 0), (.putfield 195, 3, 11, 35, 0, 0), (.aload_n 0, 1, 0, 0, 0, 0), (.dup, 1, 0, 0, 0, 0), (.getfield 189, 3, 11, 33, 0, 0), (.iconst 1, 1, 0, 0, 0, 1), (.iadd, 1, 0, 0, 0, 0), (.putfield 189, 3, 11, 33, 0, 0)]
theorem sk_100_79 : segB 11 false prog_13_method_22_code 79 sg_100_79 = true := by decide +kernel
theorem ck_100_6 : decode prog_13_method_22_code 6 = .ok (.if_icmp .eq 9, 3) ∧ lnkB 11 false 6 (.if_icmp .eq 9, 3, 15, 0, 0, 0) = true := by decide +kernel
theorem ck_100_12 : decode prog_13_method_22_code 12 = .ok (.if_icmp .ne 13, 3) ∧ lnkB 11 false 12 (.if_icmp .ne 13, 3, 25, 0, 0, 0) = true := by decide +kernel
theorem ck_100_21 : decode prog_13_method_22_code 21 = .ok (.invokevirtual 198, 3) ∧ lnkB 11 false 21 (.invokevirtual 198, 3, 99, 0, 0, 0) = true := by decide +kernel
theorem ck_100_24 : decode prog_13_method_22_code 24 = .ok (.return_, 1) ∧ lnkB 11 false 24 (.return_, 1, 0, 0, 0, 0) = true := by decide +kernel
theorem ca_100_34 : decode prog_13_method_22_code 34 = .ok (.iastore, 1) ∧ lnkB 11 false 34 (.iastore, 1, 0, 0, 0, 0) = true := by decide +kernel
theorem ca_100_47 : decode prog_13_method_22_code 47 = .ok (.iastore, 1) ∧ lnkB 11 false 47 (.iastore, 1, 0, 0, 0, 0) = true := by decide +kernel
theorem ca_100_57 : decode prog_13_method_22_code 57 = .ok (.iastore, 1) ∧ lnkB 11 false 57 (.iastore, 1, 0, 0, 0, 0) = true := by decide +kernel
theorem ca_100_67 : decode prog_13_method_22_code 67 = .ok (.lastore, 1) ∧ lnkB 11 false 67 (.lastore, 1, 0, 0, 0, 0) = true := by decide +kernel
theorem ca_100_78 : decode prog_13_method_22_code 78 = .ok (.iastore, 1) ∧ lnkB 11 false 78 (.iastore, 1, 0, 0, 0, 0) = true := by decide +kernel
theorem ck_100_99 : decode prog_13_method_22_code 99 = .ok (.return_, 1) ∧ lnkB 11 false 99 (.return_, 1, 0, 0, 0, 0) = true := by decide +kernel
abbrev RU_100 (d : Nat) (cp : Nat × Nat) (Post : Option Value → Sto → Prop) : PP := Runs (Ex d) prog_13_method_22_code 11 false 5 none none cp Post
theorem en_100 {d : Nat} {As : List Value} {S : Sto} {mc ms : Nat} {Post : Option Value → Sto → Prop} (hc : cats As ≤ 5) (h : RU_100 d (mc, ms) Post 0 (lv_args 0 As) [] S 0 0) : Ex (d + 1) 100 As S mc ms Post := ⟨by decide, hc, h⟩
def sg_101_0 : List RI := [(.iconst (-1), 1, 0, 0, 0, -1), (.istore_n 3, 1, 0, 0, 0, 0), (.aload_n 0, 1, 0, 0, 0, 0), (.lconst 0, 1, 0, 0, 0, 0), (.putfield 209, 3, 11, 43, 1, 0), (.iconst 0, 1, 0, 0, 0, 0), (.istore 4, 2, 0, 0, 0, 0)]
theorem sk_101_0 : segB 11 false prog_13_method_24_code 0 sg_101_0 = true := by decide +kernel
def sg_101_10 : List RI := [(.iload 4, 2, 0, 0, 0, 0), (.aload_n 0, 1, 0, 0, 0, 0), (.getfield 195, 3, 11, 35, 0, 0)]
theorem sk_101_10 : segB 11 false prog_13_method_24_code 10 sg_101_10 = true := by decide +kernel
def sg_101_19 : List RI := [(.aload_n 0, 1, 0, 0, 0, 0), (.dup, 1, 0, 0, 0, 0), (.getfield 209, 3, 11, 43, 1, 0), (.aload_n 0, 1, 0, 0, 0, 0), (.getfield 46, 3, 11, 15, 2, 0), (.aload_n 0, 1, 0, 0, 0, 0), (.getfield 99, 3, 11, 36, 2, 0), (.iload 4, 2, 0, 0, 0, 0)]
theorem sk_101_19 : segB 11 false prog_13_method_24_code 19 sg_101_19 = true := by decide +kernel
def sg_101_36 : List RI := [(.i2l, 1, 0, 0, 0, 0), (.aload_n 0, 1, 0, 0, 0, 0), (.getfield 114, 3, 11, 41, 2, 0), (.iload 4, 2, 0, 0, 0, 0)]
theorem sk_101_36 : segB 11 false prog_13_method_24_code 36 sg_101_36 = true := by decide +kernel
def sg_101_44 : List RI := [(.lmul, 1, 0, 0, 0, 0), (.ladd, 1, 0, 0, 0, 0), (.putfield 209, 3, 11, 43, 1, 0), (.iload_n 3, 1, 0, 0, 0, 0), (.iconst (-1), 1, 0, 0, 0, -1)]
theorem sk_101_44 : segB 11 false prog_13_method_24_code 44 sg_101_44 = true := by decide +kernel
def sg_101_54 : List RI := [(.aload_n 0, 1, 0, 0, 0, 0), (.getfield 209, 3, 11, 43, 1, 0), (.lload_n 1, 1, 0, 0, 0, 0), (.lcmp, 1, 0, 0, 0, 0)]
theorem sk_101_54 : segB 11 false prog_13_method_24_code 54 sg_101_54 = true := by decide +kernel
def sg_101_63 : List RI := [(.iload 4, 2, 0, 0, 0, 0)]
theorem sk_101_63 : segB 11 false prog_13_method_24_code 63 sg_101_63 = true := by decide +kernel
def sg_101_68 : List RI := [(.iload_n 3, 1, 0, 0, 0, 0)]
theorem sk_101_68 : segB 11 false prog_13_method_24_code 68 sg_101_68 = true := by decide +kernel
def sg_101_69 : List RI := [(.istore_n 3, 1, 0, 0, 0, 0), (.iinc 4 1, 3, 0, 0, 0, 1)]
theorem sk_101_69 : segB 11 false prog_13_method_24_code 69 sg_101_69 = true := by decide +kernel
def sg_101_76 : List RI := [(.iload_n 3, 1, 0, 0, 0, 0)]
theorem sk_101_76 : segB 11 false prog_13_method_24_code 76 sg_101_76 = true := by decide +kernel
theorem ck_101_16 : decode prog_13_method_24_code 16 = .ok (.if_icmp .ge 60, 3) ∧ lnkB 11 false 16 (.if_icmp .ge 60, 3, 76, 0, 0, 0) = true := by decide +kernel
theorem ca_101_34 : decode prog_13_method_24_code 34 = .ok (.iaload, 1) ∧ lnkB 11 false 34 (.iaload, 1, 0, 0, 0, 0) = true := by decide +kernel
theorem ca_101_35 : decode prog_13_method_24_code 35 = .ok (.iaload, 1) ∧ lnkB 11 false 35 (.iaload, 1, 0, 0, 0, 0) = true := by decide +kernel
theorem ca_101_43 : decode prog_13_method_24_code 43 = .ok (.laload, 1) ∧ lnkB 11 false 43 (.laload, 1, 0, 0, 0, 0) = true := by decide +kernel
theorem ck_101_51 : decode prog_13_method_24_code 51 = .ok (.if_icmp .ne 17, 3) ∧ lnkB 11 false 51 (.if_icmp .ne 17, 3, 68, 0, 0, 0) = true := by decide +kernel
theorem ck_101_60 : decode prog_13_method_24_code 60 = .ok (.ifCond .le 8, 3) ∧ lnkB 11 false 60 (.ifCond .le 8, 3, 68, 0, 0, 0) = true := by decide +kernel
theorem ck_101_65 : decode prog_13_method_24_code 65 = .ok (.goto 4, 3) ∧ lnkB 11 false 65 (.goto 4, 3, 69, 0, 0, 0) = true := by decide +kernel
theorem ck_101_73 : decode prog_13_method_24_code 73 = .ok (.goto (-63), 3) ∧ lnkB 11 false 73 (.goto (-63), 3, 10, 0, 0, 0) = true := by decide +kernel
theorem ck_101_77 : decode prog_13_method_24_code 77 = .ok (.ireturn, 1) ∧ lnkB 11 false 77 (.ireturn, 1, 0, 0, 0, 0) = true := by decide +kernel
abbrev RU_101 (d : Nat) (cp : Nat × Nat) (Post : Option Value → Sto → Prop) : PP := Runs (Ex d) prog_13_method_24_code 11 false 5 (some .int) none cp Post
theorem en_101 {d : Nat} {As : List Value} {S : Sto} {mc ms : Nat} {Post : Option Value → Sto → Prop} (hc : cats As ≤ 5) (h : RU_101 d (mc, ms) Post 0 (lv_args 0 As) [] S 0 0) : Ex (d + 1) 101 As S mc ms Post := ⟨by decide, hc, h⟩
def sg_102_0 : List RI := [(.iload_n 1, 1, 0, 0, 0, 0), (.iconst 0, 1, 0, 0, 0, 0), (.iconst 3, 1, 0, 0, 0, 3)]
theorem sk_102_0 : segB 11 false prog_13_method_39_code 0 sg_102_0 = true := by decide +kernel
def sg_102_9 : List RI := [(.iload_n 2, 1, 0, 0, 0, 0), (.iload_n 3, 1, 0, 0, 0, 0)]
theorem sk_102_9 : segB 11 false prog_13_method_39_code 9 sg_102_9 = true := by decide +kernel
def sg_102_17 : List RI := [(.iload 4, 2, 0, 0, 0, 0), (.iconst 1, 1, 0, 0, 0, 1), (.sipush 200, 3, 0, 0, 0, 200)]
theorem sk_102_17 : segB 11 false prog_13_method_39_code 17 sg_102_17 = true := by decide +kernel
def sg_102_29 : List RI := [(.aload_n 0, 1, 0, 0, 0, 0), (.getfield 176, 3, 11, 1, 0, 0), (.iload 4, 2, 0, 0, 0, 0), (.iadd, 1, 0, 0, 0, 0), (.ldc 169, 2, 0, 0, 0, 100000)]
theorem sk_102_29 : segB 11 false prog_13_method_39_code 29 sg_102_29 = true := by decide +kernel
def sg_102_41 : List RI := [(.iconst (-1), 1, 0, 0, 0, -1)]
theorem sk_102_41 : segB 11 false prog_13_method_39_code 41 sg_102_41 = true := by decide +kernel
def sg_102_43 : List RI := [(.aload_n 0, 1, 0, 0, 0, 0), (.iload_n 2, 1, 0, 0, 0, 0)]
theorem sk_102_43 : segB 11 false prog_13_method_39_code 43 sg_102_43 = true := by decide +kernel
def sg_102_48 : List RI := [(.aload_n 0, 1, 0, 0, 0, 0), (.iconst 0, 1, 0, 0, 0, 0), (.putfield 183, 3, 11, 32, 0, 0), (.aload_n 0, 1, 0, 0, 0, 0), (.getfield 192, 3, 11, 34, 0, 0)]
theorem sk_102_48 : segB 11 false prog_13_method_39_code 48 sg_102_48 = true := by decide +kernel
def sg_102_60 : List RI := [(.bipush (-2), 2, 0, 0, 0, -2), (.aload_n 0, 1, 0, 0, 0, 0), (.getfield 192, 3, 11, 34, 0, 0), (.isub, 1, 0, 0, 0, 0)]
theorem sk_102_60 : segB 11 false prog_13_method_39_code 60 sg_102_60 = true := by decide +kernel
def sg_102_68 : List RI := [(.aload_n 0, 1, 0, 0, 0, 0), (.aload_n 0, 1, 0, 0, 0, 0), (.getfield 92, 3, 11, 30, 2, 0), (.iload_n 1, 1, 0, 0, 0, 0)]
theorem sk_102_68 : segB 11 false prog_13_method_39_code 68 sg_102_68 = true := by decide +kernel
def sg_102_75 : List RI := [(.i2l, 1, 0, 0, 0, 0)]
theorem sk_102_75 : segB 11 false prog_13_method_39_code 75 sg_102_75 = true := by decide +kernel
def sg_102_79 : List RI := [(.istore 5, 2, 0, 0, 0, 0), (.iload 5, 2, 0, 0, 0, 0), (.iconst (-1), 1, 0, 0, 0, -1)]
theorem sk_102_79 : segB 11 false prog_13_method_39_code 79 sg_102_79 = true := by decide +kernel
def sg_102_87 : List RI := [(.aload_n 0, 1, 0, 0, 0, 0), (.aload_n 0, 1, 0, 0, 0, 0), (.getfield 102, 3, 11, 37, 2, 0), (.iload 5, 2, 0, 0, 0, 0)]
theorem sk_102_87 : segB 11 false prog_13_method_39_code 87 sg_102_87 = true := by decide +kernel
def sg_102_95 : List RI := [(.putfield 151, 3, 11, 58, 0, 0), (.iconst 2, 1, 0, 0, 0, 2)]
theorem sk_102_95 : segB 11 false prog_13_method_39_code 95 sg_102_95 = true := by decide +kernel
def sg_102_100 : List RI := [(.aload_n 0, 1, 0, 0, 0, 0), (.getfield 92, 3, 11, 30, 2, 0), (.iload_n 1, 1, 0, 0, 0, 0), (.dup2, 1, 0, 0, 0, 0)]
theorem sk_102_100 : segB 11 false prog_13_method_39_code 100 sg_102_100 = true := by decide +kernel
def sg_102_107 : List RI := [(.aload_n 0, 1, 0, 0, 0, 0), (.getfield 209, 3, 11, 43, 1, 0), (.l2i, 1, 0, 0, 0, 0), (.isub, 1, 0, 0, 0, 0)]
theorem sk_102_107 : segB 11 false prog_13_method_39_code 107 sg_102_107 = true := by decide +kernel
def sg_102_114 : List RI := [(.aload_n 0, 1, 0, 0, 0, 0), (.iload_n 1, 1, 0, 0, 0, 0), (.putfield 223, 3, 11, 49, 0, 0), (.aload_n 0, 1, 0, 0, 0, 0), (.iconst 0, 1, 0, 0, 0, 0), (.putfield 232, 3, 11, 50, 0, 0), (.aload_n 0, 1, 0, 0, 0, 0), (.iconst 0, 1, 0, 0, 0, 0), (.putfield 254, 3, 11, 51, 0, 0), (.aload_n 0, 1, 0, 0, 0, 0), (.iconst 0, 1, 0, 0, 0, 0), (.putfield 229, 3, 11, 47, 0, 0), (.iconst 0, 1, 0, 0, 0, 0), (.istore 6, 2, 0, 0, 0, 0)]
theorem sk_102_114 : segB 11 false prog_13_method_39_code 114 sg_102_114 = true := by decide +kernel
def sg_102_137 : List RI := [(.iload 6, 2, 0, 0, 0, 0), (.sipush 192, 3, 0, 0, 0, 192)]
theorem sk_102_137 : segB 11 false prog_13_method_39_code 137 sg_102_137 = true := by decide +kernel
def sg_102_145 : List RI := [(.aload_n 0, 1, 0, 0, 0, 0), (.getfield 121, 3, 11, 44, 2, 0), (.iload 6, 2, 0, 0, 0, 0), (.iconst 0, 1, 0, 0, 0, 0)]
theorem sk_102_145 : segB 11 false prog_13_method_39_code 145 sg_102_145 = true := by decide +kernel
def sg_102_153 : List RI := [(.aload_n 0, 1, 0, 0, 0, 0), (.getfield 124, 3, 11, 45, 2, 0), (.iload 6, 2, 0, 0, 0, 0), (.iconst 0, 1, 0, 0, 0, 0)]
theorem sk_102_153 : segB 11 false prog_13_method_39_code 153 sg_102_153 = true := by decide +kernel
def sg_102_161 : List RI := [(.iinc 6 1, 3, 0, 0, 0, 1)]
theorem sk_102_161 : segB 11 false prog_13_method_39_code 161 sg_102_161 = true := by decide +kernel
def sg_102_167 : List RI := [(.iconst 0, 1, 0, 0, 0, 0), (.istore 6, 2, 0, 0, 0, 0)]
theorem sk_102_167 : segB 11 false prog_13_method_39_code 167 sg_102_167 = true := by decide +kernel
def sg_102_170 : List RI := [(.iload 6, 2, 0, 0, 0, 0), (.sipush 3840, 3, 0, 0, 0, 3840)]
theorem sk_102_170 : segB 11 false prog_13_method_39_code 170 sg_102_170 = true := by decide +kernel
def sg_102_178 : List RI := [(.aload_n 0, 1, 0, 0, 0, 0), (.getfield 127, 3, 11, 46, 2, 0), (.iload 6, 2, 0, 0, 0, 0), (.iconst 0, 1, 0, 0, 0, 0)]
theorem sk_102_178 : segB 11 false prog_13_method_39_code 178 sg_102_178 = true := by decide +kernel
def sg_102_186 : List RI := [(.iinc 6 1, 3, 0, 0, 0, 1)]
theorem sk_102_186 : segB 11 false prog_13_method_39_code 186 sg_102_186 = true := by decide +kernel
def sg_102_192 : List RI := [(.aload_n 0, 1, 0, 0, 0, 0), (.bipush 32, 2, 0, 0, 0, 32), (.iload_n 2, 1, 0, 0, 0, 0), (.imul, 1, 0, 0, 0, 0), (.iload_n 3, 1, 0, 0, 0, 0), (.iadd, 1, 0, 0, 0, 0), (.iconst 0, 1, 0, 0, 0, 0)]
theorem sk_102_192 : segB 11 false prog_13_method_39_code 192 sg_102_192 = true := by decide +kernel
def sg_102_203 : List RI := [(.aload_n 0, 1, 0, 0, 0, 0), (.getfield 176, 3, 11, 1, 0, 0), (.iload 4, 2, 0, 0, 0, 0), (.iadd, 1, 0, 0, 0, 0), (.istore 6, 2, 0, 0, 0, 0), (.iconst 1, 1, 0, 0, 0, 1), (.istore 7, 2, 0, 0, 0, 0)]
theorem sk_102_203 : segB 11 false prog_13_method_39_code 203 sg_102_203 = true := by decide +kernel
def sg_102_215 : List RI := [(.iload 7, 2, 0, 0, 0, 0)]
theorem sk_102_215 : segB 11 false prog_13_method_39_code 215 sg_102_215 = true := by decide +kernel
def sg_102_220 : List RI := [(.aload_n 0, 1, 0, 0, 0, 0)]
theorem sk_102_220 : segB 11 false prog_13_method_39_code 220 sg_102_220 = true := by decide +kernel
def sg_102_224 : List RI := [(.aload_n 0, 1, 0, 0, 0, 0), (.getfield 176, 3, 11, 1, 0, 0), (.iload 6, 2, 0, 0, 0, 0)]
theorem sk_102_224 : segB 11 false prog_13_method_39_code 224 sg_102_224 = true := by decide +kernel
def sg_102_233 : List RI := [(.iconst 0, 1, 0, 0, 0, 0), (.istore 8, 2, 0, 0, 0, 0)]
theorem sk_102_233 : segB 11 false prog_13_method_39_code 233 sg_102_233 = true := by decide +kernel
def sg_102_236 : List RI := [(.iload 8, 2, 0, 0, 0, 0), (.iconst 5, 1, 0, 0, 0, 5)]
theorem sk_102_236 : segB 11 false prog_13_method_39_code 236 sg_102_236 = true := by decide +kernel
def sg_102_242 : List RI := [(.aload_n 0, 1, 0, 0, 0, 0), (.iload 8, 2, 0, 0, 0, 0)]
theorem sk_102_242 : segB 11 false prog_13_method_39_code 242 sg_102_242 = true := by decide +kernel
def sg_102_248 : List RI := [(.iinc 8 1, 3, 0, 0, 0, 1)]
theorem sk_102_248 : segB 11 false prog_13_method_39_code 248 sg_102_248 = true := by decide +kernel
def sg_102_257 : List RI := [(.aload_n 0, 1, 0, 0, 0, 0)]
theorem sk_102_257 : segB 11 false prog_13_method_39_code 257 sg_102_257 = true := by decide +kernel
def sg_102_261 : List RI := [(.aload_n 0, 1, 0, 0, 0, 0)]
theorem sk_102_261 : segB 11 false prog_13_method_39_code 261 sg_102_261 = true := by decide +kernel
def sg_102_268 : List RI := [(.iconst 1, 1, 0, 0, 0, 1)]
theorem sk_102_268 : segB 11 false prog_13_method_39_code 268 sg_102_268 = true := by decide +kernel
def sg_102_272 : List RI := [(.iconst 0, 1, 0, 0, 0, 0)]
theorem sk_102_272 : segB 11 false prog_13_method_39_code 272 sg_102_272 = true := by decide +kernel
def sg_102_273 : List RI := [(.istore 7, 2, 0, 0, 0, 0), (.iload 7, 2, 0, 0, 0, 0)]
theorem sk_102_273 : segB 11 false prog_13_method_39_code 273 sg_102_273 = true := by decide +kernel
def sg_102_280 : List RI := [(.aload_n 0, 1, 0, 0, 0, 0), (.iconst 1, 1, 0, 0, 0, 1)]
theorem sk_102_280 : segB 11 false prog_13_method_39_code 280 sg_102_280 = true := by decide +kernel
def sg_102_288 : List RI := [(.aload_n 0, 1, 0, 0, 0, 0), (.iconst 0, 1, 0, 0, 0, 0), (.putfield 279, 3, 11, 59, 0, 0), (.aload_n 0, 1, 0, 0, 0, 0), (.iconst 0, 1, 0, 0, 0, 0), (.putfield 282, 3, 11, 60, 0, 0), (.aload_n 0, 1, 0, 0, 0, 0), (.bipush 32, 2, 0, 0, 0, 32), (.iload_n 2, 1, 0, 0, 0, 0), (.imul, 1, 0, 0, 0, 0), (.iload_n 3, 1, 0, 0, 0, 0), (.iadd, 1, 0, 0, 0, 0), (.iconst 0, 1, 0, 0, 0, 0)]
theorem sk_102_288 : segB 11 false prog_13_method_39_code 288 sg_102_288 = true := by decide +kernel
def sg_102_309 : List RI := [(.aload_n 0, 1, 0, 0, 0, 0), (.getfield 282, 3, 11, 60, 0, 0)]
theorem sk_102_309 : segB 11 false prog_13_method_39_code 309 sg_102_309 = true := by decide +kernel
def sg_102_316 : List RI := [(.iconst 1, 1, 0, 0, 0, 1)]
theorem sk_102_316 : segB 11 false prog_13_method_39_code 316 sg_102_316 = true := by decide +kernel
def sg_102_320 : List RI := [(.iconst 0, 1, 0, 0, 0, 0)]
theorem sk_102_320 : segB 11 false prog_13_method_39_code 320 sg_102_320 = true := by decide +kernel
theorem ck_102_3 : decode prog_13_method_39_code 3 = .ok (.invokestatic 162, 3) ∧ lnkB 11 false 3 (.invokestatic 162, 3, 81, 0, 0, 0) = true := by decide +kernel
theorem ck_102_6 : decode prog_13_method_39_code 6 = .ok (.ifCond .eq 35, 3) ∧ lnkB 11 false 6 (.ifCond .eq 35, 3, 41, 0, 0, 0) = true := by decide +kernel
theorem ck_102_11 : decode prog_13_method_39_code 11 = .ok (.invokestatic 170, 3) ∧ lnkB 11 false 11 (.invokestatic 170, 3, 86, 0, 0, 0) = true := by decide +kernel
theorem ck_102_14 : decode prog_13_method_39_code 14 = .ok (.ifCond .eq 27, 3) ∧ lnkB 11 false 14 (.ifCond .eq 27, 3, 41, 0, 0, 0) = true := by decide +kernel
theorem ck_102_23 : decode prog_13_method_39_code 23 = .ok (.invokestatic 162, 3) ∧ lnkB 11 false 23 (.invokestatic 162, 3, 81, 0, 0, 0) = true := by decide +kernel
theorem ck_102_26 : decode prog_13_method_39_code 26 = .ok (.ifCond .eq 15, 3) ∧ lnkB 11 false 26 (.ifCond .eq 15, 3, 41, 0, 0, 0) = true := by decide +kernel
theorem ck_102_38 : decode prog_13_method_39_code 38 = .ok (.if_icmp .le 5, 3) ∧ lnkB 11 false 38 (.if_icmp .le 5, 3, 43, 0, 0, 0) = true := by decide +kernel
theorem ck_102_42 : decode prog_13_method_39_code 42 = .ok (.ireturn, 1) ∧ lnkB 11 false 42 (.ireturn, 1, 0, 0, 0, 0) = true := by decide +kernel
theorem ck_102_45 : decode prog_13_method_39_code 45 = .ok (.invokevirtual 213, 3) ∧ lnkB 11 false 45 (.invokevirtual 213, 3, 97, 0, 0, 0) = true := by decide +kernel
theorem ck_102_57 : decode prog_13_method_39_code 57 = .ok (.ifCond .le 11, 3) ∧ lnkB 11 false 57 (.ifCond .le 11, 3, 68, 0, 0, 0) = true := by decide +kernel
theorem ck_102_67 : decode prog_13_method_39_code 67 = .ok (.ireturn, 1) ∧ lnkB 11 false 67 (.ireturn, 1, 0, 0, 0, 0) = true := by decide +kernel
theorem ca_102_74 : decode prog_13_method_39_code 74 = .ok (.iaload, 1) ∧ lnkB 11 false 74 (.iaload, 1, 0, 0, 0, 0) = true := by decide +kernel
theorem ck_102_76 : decode prog_13_method_39_code 76 = .ok (.invokevirtual 216, 3) ∧ lnkB 11 false 76 (.invokevirtual 216, 3, 101, 0, 0, 0) = true := by decide +kernel
theorem ck_102_84 : decode prog_13_method_39_code 84 = .ok (.if_icmp .eq 16, 3) ∧ lnkB 11 false 84 (.if_icmp .eq 16, 3, 100, 0, 0, 0) = true := by decide +kernel
theorem ca_102_94 : decode prog_13_method_39_code 94 = .ok (.iaload, 1) ∧ lnkB 11 false 94 (.iaload, 1, 0, 0, 0, 0) = true := by decide +kernel
theorem ck_102_99 : decode prog_13_method_39_code 99 = .ok (.ireturn, 1) ∧ lnkB 11 false 99 (.ireturn, 1, 0, 0, 0, 0) = true := by decide +kernel
theorem ca_102_106 : decode prog_13_method_39_code 106 = .ok (.iaload, 1) ∧ lnkB 11 false 106 (.iaload, 1, 0, 0, 0, 0) = true := by decide +kernel
theorem ca_102_113 : decode prog_13_method_39_code 113 = .ok (.iastore, 1) ∧ lnkB 11 false 113 (.iastore, 1, 0, 0, 0, 0) = true := by decide +kernel
theorem ck_102_142 : decode prog_13_method_39_code 142 = .ok (.if_icmp .ge 25, 3) ∧ lnkB 11 false 142 (.if_icmp .ge 25, 3, 167, 0, 0, 0) = true := by decide +kernel
theorem ca_102_152 : decode prog_13_method_39_code 152 = .ok (.iastore, 1) ∧ lnkB 11 false 152 (.iastore, 1, 0, 0, 0, 0) = true := by decide +kernel
theorem ca_102_160 : decode prog_13_method_39_code 160 = .ok (.iastore, 1) ∧ lnkB 11 false 160 (.iastore, 1, 0, 0, 0, 0) = true := by decide +kernel
theorem ck_102_164 : decode prog_13_method_39_code 164 = .ok (.goto (-27), 3) ∧ lnkB 11 false 164 (.goto (-27), 3, 137, 0, 0, 0) = true := by decide +kernel
theorem ck_102_175 : decode prog_13_method_39_code 175 = .ok (.if_icmp .ge 17, 3) ∧ lnkB 11 false 175 (.if_icmp .ge 17, 3, 192, 0, 0, 0) = true := by decide +kernel
theorem ca_102_185 : decode prog_13_method_39_code 185 = .ok (.bastore, 1) ∧ lnkB 11 false 185 (.bastore, 1, 15, 0, 0, 0) = true := by decide +kernel
theorem ck_102_189 : decode prog_13_method_39_code 189 = .ok (.goto (-19), 3) ∧ lnkB 11 false 189 (.goto (-19), 3, 170, 0, 0, 0) = true := by decide +kernel
theorem ck_102_200 : decode prog_13_method_39_code 200 = .ok (.invokevirtual 237, 3) ∧ lnkB 11 false 200 (.invokevirtual 237, 3, 103, 0, 0, 0) = true := by decide +kernel
theorem ck_102_217 : decode prog_13_method_39_code 217 = .ok (.ifCond .eq 71, 3) ∧ lnkB 11 false 217 (.ifCond .eq 71, 3, 288, 0, 0, 0) = true := by decide +kernel
theorem ck_102_221 : decode prog_13_method_39_code 221 = .ok (.invokevirtual 266, 3) ∧ lnkB 11 false 221 (.invokevirtual 266, 3, 108, 0, 0, 0) = true := by decide +kernel
theorem ck_102_230 : decode prog_13_method_39_code 230 = .ok (.if_icmp .ge 27, 3) ∧ lnkB 11 false 230 (.if_icmp .ge 27, 3, 257, 0, 0, 0) = true := by decide +kernel
theorem ck_102_239 : decode prog_13_method_39_code 239 = .ok (.if_icmp .ge 15, 3) ∧ lnkB 11 false 239 (.if_icmp .ge 15, 3, 254, 0, 0, 0) = true := by decide +kernel
theorem ck_102_245 : decode prog_13_method_39_code 245 = .ok (.invokevirtual 269, 3) ∧ lnkB 11 false 245 (.invokevirtual 269, 3, 112, 0, 0, 0) = true := by decide +kernel
theorem ck_102_251 : decode prog_13_method_39_code 251 = .ok (.goto (-15), 3) ∧ lnkB 11 false 251 (.goto (-15), 3, 236, 0, 0, 0) = true := by decide +kernel
theorem ck_102_254 : decode prog_13_method_39_code 254 = .ok (.goto 7, 3) ∧ lnkB 11 false 254 (.goto 7, 3, 261, 0, 0, 0) = true := by decide +kernel
theorem ck_102_258 : decode prog_13_method_39_code 258 = .ok (.invokevirtual 272, 3) ∧ lnkB 11 false 258 (.invokevirtual 272, 3, 115, 0, 0, 0) = true := by decide +kernel
theorem ck_102_262 : decode prog_13_method_39_code 262 = .ok (.invokevirtual 275, 3) ∧ lnkB 11 false 262 (.invokevirtual 275, 3, 116, 0, 0, 0) = true := by decide +kernel
theorem ck_102_265 : decode prog_13_method_39_code 265 = .ok (.ifCond .ne 7, 3) ∧ lnkB 11 false 265 (.ifCond .ne 7, 3, 272, 0, 0, 0) = true := by decide +kernel
theorem ck_102_269 : decode prog_13_method_39_code 269 = .ok (.goto 4, 3) ∧ lnkB 11 false 269 (.goto 4, 3, 273, 0, 0, 0) = true := by decide +kernel
theorem ck_102_277 : decode prog_13_method_39_code 277 = .ok (.ifCond .eq (-62), 3) ∧ lnkB 11 false 277 (.ifCond .eq (-62), 3, 215, 0, 0, 0) = true := by decide +kernel
theorem ck_102_282 : decode prog_13_method_39_code 282 = .ok (.invokevirtual 179, 3) ∧ lnkB 11 false 282 (.invokevirtual 179, 3, 92, 0, 0, 0) = true := by decide +kernel
theorem ck_102_285 : decode prog_13_method_39_code 285 = .ok (.goto (-70), 3) ∧ lnkB 11 false 285 (.goto (-70), 3, 215, 0, 0, 0) = true := by decide +kernel
theorem ck_102_306 : decode prog_13_method_39_code 306 = .ok (.invokevirtual 286, 3) ∧ lnkB 11 false 306 (.invokevirtual 286, 3, 117, 0, 0, 0) = true := by decide +kernel
theorem ck_102_313 : decode prog_13_method_39_code 313 = .ok (.ifCond .eq 7, 3) ∧ lnkB 11 false 313 (.ifCond .eq 7, 3, 320, 0, 0, 0) = true := by decide +kernel
theorem ck_102_317 : decode prog_13_method_39_code 317 = .ok (.goto 4, 3) ∧ lnkB 11 false 317 (.goto 4, 3, 321, 0, 0, 0) = true := by decide +kernel
theorem ck_102_321 : decode prog_13_method_39_code 321 = .ok (.ireturn, 1) ∧ lnkB 11 false 321 (.ireturn, 1, 0, 0, 0, 0) = true := by decide +kernel
abbrev RU_102 (d : Nat) (cp : Nat × Nat) (Post : Option Value → Sto → Prop) : PP := Runs (Ex d) prog_13_method_39_code 11 false 9 (some .int) none cp Post
theorem en_102 {d : Nat} {As : List Value} {S : Sto} {mc ms : Nat} {Post : Option Value → Sto → Prop} (hc : cats As ≤ 9) (h : RU_102 d (mc, ms) Post 0 (lv_args 0 As) [] S 0 0) : Ex (d + 1) 102 As S mc ms Post := ⟨by decide, hc, h⟩
def sg_103_0 : List RI := [(.aload_n 0, 1, 0, 0, 0, 0), (.getfield 127, 3, 11, 46, 2, 0), (.bipush 20, 2, 0, 0, 0, 20), (.iload_n 1, 1, 0, 0, 0, 0), (.imul, 1, 0, 0, 0, 0), (.iload_n 2, 1, 0, 0, 0, 0), (.iadd, 1, 0, 0, 0, 0)]
theorem sk_103_0 : segB 11 false prog_13_method_27_code 0 sg_103_0 = true := by decide +kernel
def sg_103_15 : List RI := [(.aload_n 0, 1, 0, 0, 0, 0), (.getfield 127, 3, 11, 46, 2, 0), (.bipush 20, 2, 0, 0, 0, 20), (.iload_n 1, 1, 0, 0, 0, 0), (.imul, 1, 0, 0, 0, 0), (.iload_n 2, 1, 0, 0, 0, 0), (.iadd, 1, 0, 0, 0, 0), (.iconst 1, 1, 0, 0, 0, 1)]
theorem sk_103_15 : segB 11 false prog_13_method_27_code 15 sg_103_15 = true := by decide +kernel
def sg_103_27 : List RI := [(.aload_n 0, 1, 0, 0, 0, 0), (.getfield 121, 3, 11, 44, 2, 0), (.iload_n 1, 1, 0, 0, 0, 0)]
theorem sk_103_27 : segB 11 false prog_13_method_27_code 27 sg_103_27 = true := by decide +kernel
def sg_103_36 : List RI := [(.aload_n 0, 1, 0, 0, 0, 0), (.getfield 83, 3, 11, 27, 2, 0), (.aload_n 0, 1, 0, 0, 0, 0), (.getfield 223, 3, 11, 49, 0, 0)]
theorem sk_103_36 : segB 11 false prog_13_method_27_code 36 sg_103_36 = true := by decide +kernel
def sg_103_45 : List RI := [(.iload_n 1, 1, 0, 0, 0, 0), (.bipush 32, 2, 0, 0, 0, 32), (.idiv, 1, 0, 0, 0, 0), (.ishr, 1, 0, 0, 0, 0), (.iconst 1, 1, 0, 0, 0, 1), (.iand, 1, 0, 0, 0, 0)]
theorem sk_103_45 : segB 11 false prog_13_method_27_code 45 sg_103_45 = true := by decide +kernel
def sg_103_55 : List RI := [(.aload_n 0, 1, 0, 0, 0, 0), (.iload_n 1, 1, 0, 0, 0, 0), (.iconst 1, 1, 0, 0, 0, 1)]
theorem sk_103_55 : segB 11 false prog_13_method_27_code 55 sg_103_55 = true := by decide +kernel
def sg_103_64 : List RI := [(.aload_n 0, 1, 0, 0, 0, 0), (.getfield 80, 3, 11, 26, 2, 0), (.iload_n 1, 1, 0, 0, 0, 0)]
theorem sk_103_64 : segB 11 false prog_13_method_27_code 64 sg_103_64 = true := by decide +kernel
def sg_103_70 : List RI := [(.aload_n 0, 1, 0, 0, 0, 0), (.getfield 176, 3, 11, 1, 0, 0)]
theorem sk_103_70 : segB 11 false prog_13_method_27_code 70 sg_103_70 = true := by decide +kernel
def sg_103_77 : List RI := [(.aload_n 0, 1, 0, 0, 0, 0), (.getfield 121, 3, 11, 44, 2, 0), (.iload_n 1, 1, 0, 0, 0, 0), (.iconst 3, 1, 0, 0, 0, 3)]
theorem sk_103_77 : segB 11 false prog_13_method_27_code 77 sg_103_77 = true := by decide +kernel
def sg_103_87 : List RI := [(.aload_n 0, 1, 0, 0, 0, 0), (.getfield 121, 3, 11, 44, 2, 0), (.iload_n 1, 1, 0, 0, 0, 0), (.iconst 1, 1, 0, 0, 0, 1)]
theorem sk_103_87 : segB 11 false prog_13_method_27_code 87 sg_103_87 = true := by decide +kernel
def sg_103_94 : List RI := [(.aload_n 0, 1, 0, 0, 0, 0), (.getfield 130, 3, 11, 48, 2, 0), (.aload_n 0, 1, 0, 0, 0, 0), (.getfield 229, 3, 11, 47, 0, 0), (.iload_n 1, 1, 0, 0, 0, 0)]
theorem sk_103_94 : segB 11 false prog_13_method_27_code 94 sg_103_94 = true := by decide +kernel
def sg_103_104 : List RI := [(.aload_n 0, 1, 0, 0, 0, 0), (.dup, 1, 0, 0, 0, 0), (.getfield 229, 3, 11, 47, 0, 0), (.iconst 1, 1, 0, 0, 0, 1), (.iadd, 1, 0, 0, 0, 0), (.putfield 229, 3, 11, 47, 0, 0), (.aload_n 0, 1, 0, 0, 0, 0), (.dup, 1, 0, 0, 0, 0), (.getfield 232, 3, 11, 50, 0, 0), (.iconst 1, 1, 0, 0, 0, 1), (.iadd, 1, 0, 0, 0, 0), (.putfield 232, 3, 11, 50, 0, 0)]
theorem sk_103_104 : segB 11 false prog_13_method_27_code 104 sg_103_104 = true := by decide +kernel
def sg_103_124 : List RI := [(.aload_n 0, 1, 0, 0, 0, 0), (.getfield 121, 3, 11, 44, 2, 0), (.iload_n 1, 1, 0, 0, 0, 0)]
theorem sk_103_124 : segB 11 false prog_13_method_27_code 124 sg_103_124 = true := by decide +kernel
def sg_103_130 : List RI := [(.iconst 3, 1, 0, 0, 0, 3)]
theorem sk_103_130 : segB 11 false prog_13_method_27_code 130 sg_103_130 = true := by decide +kernel
def sg_103_134 : List RI := [(.aload_n 0, 1, 0, 0, 0, 0), (.iload_n 1, 1, 0, 0, 0, 0), (.iload_n 2, 1, 0, 0, 0, 0)]
theorem sk_103_134 : segB 11 false prog_13_method_27_code 134 sg_103_134 = true := by decide +kernel
theorem ca_103_10 : decode prog_13_method_27_code 10 = .ok (.baload, 1) ∧ lnkB 11 false 10 (.baload, 1, 15, 0, 0, 0) = true := by decide +kernel
theorem ck_103_11 : decode prog_13_method_27_code 11 = .ok (.ifCond .eq 4, 3) ∧ lnkB 11 false 11 (.ifCond .eq 4, 3, 15, 0, 0, 0) = true := by decide +kernel
theorem ck_103_14 : decode prog_13_method_27_code 14 = .ok (.return_, 1) ∧ lnkB 11 false 14 (.return_, 1, 0, 0, 0, 0) = true := by decide +kernel
theorem ca_103_26 : decode prog_13_method_27_code 26 = .ok (.bastore, 1) ∧ lnkB 11 false 26 (.bastore, 1, 15, 0, 0, 0) = true := by decide +kernel
theorem ca_103_32 : decode prog_13_method_27_code 32 = .ok (.iaload, 1) ∧ lnkB 11 false 32 (.iaload, 1, 0, 0, 0, 0) = true := by decide +kernel
theorem ck_103_33 : decode prog_13_method_27_code 33 = .ok (.ifCond .ne 91, 3) ∧ lnkB 11 false 33 (.ifCond .ne 91, 3, 124, 0, 0, 0) = true := by decide +kernel
theorem ca_103_44 : decode prog_13_method_27_code 44 = .ok (.iaload, 1) ∧ lnkB 11 false 44 (.iaload, 1, 0, 0, 0, 0) = true := by decide +kernel
theorem ck_103_52 : decode prog_13_method_27_code 52 = .ok (.ifCond .ne 12, 3) ∧ lnkB 11 false 52 (.ifCond .ne 12, 3, 64, 0, 0, 0) = true := by decide +kernel
theorem ck_103_58 : decode prog_13_method_27_code 58 = .ok (.invokevirtual 226, 3) ∧ lnkB 11 false 58 (.invokevirtual 226, 3, 104, 0, 0, 0) = true := by decide +kernel
theorem ck_103_61 : decode prog_13_method_27_code 61 = .ok (.goto 63, 3) ∧ lnkB 11 false 61 (.goto 63, 3, 124, 0, 0, 0) = true := by decide +kernel
theorem ca_103_69 : decode prog_13_method_27_code 69 = .ok (.iaload, 1) ∧ lnkB 11 false 69 (.iaload, 1, 0, 0, 0, 0) = true := by decide +kernel
theorem ck_103_74 : decode prog_13_method_27_code 74 = .ok (.if_icmp .le 13, 3) ∧ lnkB 11 false 74 (.if_icmp .le 13, 3, 87, 0, 0, 0) = true := by decide +kernel
theorem ca_103_83 : decode prog_13_method_27_code 83 = .ok (.iastore, 1) ∧ lnkB 11 false 83 (.iastore, 1, 0, 0, 0, 0) = true := by decide +kernel
theorem ck_103_84 : decode prog_13_method_27_code 84 = .ok (.goto 40, 3) ∧ lnkB 11 false 84 (.goto 40, 3, 124, 0, 0, 0) = true := by decide +kernel
theorem ca_103_93 : decode prog_13_method_27_code 93 = .ok (.iastore, 1) ∧ lnkB 11 false 93 (.iastore, 1, 0, 0, 0, 0) = true := by decide +kernel
theorem ca_103_103 : decode prog_13_method_27_code 103 = .ok (.iastore, 1) ∧ lnkB 11 false 103 (.iastore, 1, 0, 0, 0, 0) = true := by decide +kernel
theorem ca_103_129 : decode prog_13_method_27_code 129 = .ok (.iaload, 1) ∧ lnkB 11 false 129 (.iaload, 1, 0, 0, 0, 0) = true := by decide +kernel
theorem ck_103_131 : decode prog_13_method_27_code 131 = .ok (.if_icmp .ne 9, 3) ∧ lnkB 11 false 131 (.if_icmp .ne 9, 3, 140, 0, 0, 0) = true := by decide +kernel
theorem ck_103_137 : decode prog_13_method_27_code 137 = .ok (.invokevirtual 235, 3) ∧ lnkB 11 false 137 (.invokevirtual 235, 3, 105, 0, 0, 0) = true := by decide +kernel
theorem ck_103_140 : decode prog_13_method_27_code 140 = .ok (.return_, 1) ∧ lnkB 11 false 140 (.return_, 1, 0, 0, 0, 0) = true := by decide +kernel
abbrev RU_103 (d : Nat) (cp : Nat × Nat) (Post : Option Value → Sto → Prop) : PP := Runs (Ex d) prog_13_method_27_code 11 false 3 none none cp Post
theorem en_103 {d : Nat} {As : List Value} {S : Sto} {mc ms : Nat} {Post : Option Value → Sto → Prop} (hc : cats As ≤ 3) (h : RU_103 d (mc, ms) Post 0 (lv_args 0 As) [] S 0 0) : Ex (d + 1) 103 As S mc ms Post := ⟨by decide, hc, h⟩
def sg_104_0 : List RI := [(.aload_n 0, 1, 0, 0, 0, 0), (.getfield 121, 3, 11, 44, 2, 0), (.iload_n 1, 1, 0, 0, 0, 0), (.iconst 4, 1, 0, 0, 0, 4)]
theorem sk_104_0 : segB 11 false prog_13_method_26_code 0 sg_104_0 = true := by decide +kernel
def sg_104_7 : List RI := [(.aload_n 0, 1, 0, 0, 0, 0), (.getfield 124, 3, 11, 45, 2, 0), (.iload_n 1, 1, 0, 0, 0, 0), (.iload_n 2, 1, 0, 0, 0, 0)]
theorem sk_104_7 : segB 11 false prog_13_method_26_code 7 sg_104_7 = true := by decide +kernel
theorem ca_104_6 : decode prog_13_method_26_code 6 = .ok (.iastore, 1) ∧ lnkB 11 false 6 (.iastore, 1, 0, 0, 0, 0) = true := by decide +kernel
theorem ca_104_13 : decode prog_13_method_26_code 13 = .ok (.iastore, 1) ∧ lnkB 11 false 13 (.iastore, 1, 0, 0, 0, 0) = true := by decide +kernel
theorem ck_104_14 : decode prog_13_method_26_code 14 = .ok (.return_, 1) ∧ lnkB 11 false 14 (.return_, 1, 0, 0, 0, 0) = true := by decide +kernel
abbrev RU_104 (d : Nat) (cp : Nat × Nat) (Post : Option Value → Sto → Prop) : PP := Runs (Ex d) prog_13_method_26_code 11 false 3 none none cp Post
theorem en_104 {d : Nat} {As : List Value} {S : Sto} {mc ms : Nat} {Post : Option Value → Sto → Prop} (hc : cats As ≤ 3) (h : RU_104 d (mc, ms) Post 0 (lv_args 0 As) [] S 0 0) : Ex (d + 1) 104 As S mc ms Post := ⟨by decide, hc, h⟩
def sg_105_0 : List RI := [(.iconst 0, 1, 0, 0, 0, 0), (.istore_n 3, 1, 0, 0, 0, 0)]
theorem sk_105_0 : segB 11 false prog_13_method_30_code 0 sg_105_0 = true := by decide +kernel
def sg_105_2 : List RI := [(.iload_n 3, 1, 0, 0, 0, 0), (.aload_n 0, 1, 0, 0, 0, 0), (.getfield 105, 3, 11, 38, 2, 0), (.iload_n 2, 1, 0, 0, 0, 0)]
theorem sk_105_2 : segB 11 false prog_13_method_30_code 2 sg_105_2 = true := by decide +kernel
def sg_105_12 : List RI := [(.aload_n 0, 1, 0, 0, 0, 0), (.getfield 108, 3, 11, 39, 2, 0), (.bipush 6, 2, 0, 0, 0, 6), (.iload_n 2, 1, 0, 0, 0, 0), (.imul, 1, 0, 0, 0, 0), (.iload_n 3, 1, 0, 0, 0, 0), (.iadd, 1, 0, 0, 0, 0)]
theorem sk_105_12 : segB 11 false prog_13_method_30_code 12 sg_105_12 = true := by decide +kernel
def sg_105_23 : List RI := [(.istore 4, 2, 0, 0, 0, 0), (.iconst 4, 1, 0, 0, 0, 4), (.iload_n 1, 1, 0, 0, 0, 0), (.bipush 32, 2, 0, 0, 0, 32), (.idiv, 1, 0, 0, 0, 0), (.imul, 1, 0, 0, 0, 0), (.iload 4, 2, 0, 0, 0, 0), (.iadd, 1, 0, 0, 0, 0), (.istore 5, 2, 0, 0, 0, 0), (.aload_n 0, 1, 0, 0, 0, 0), (.getfield 111, 3, 11, 40, 2, 0), (.bipush 6, 2, 0, 0, 0, 6), (.iload_n 2, 1, 0, 0, 0, 0), (.imul, 1, 0, 0, 0, 0), (.iload_n 3, 1, 0, 0, 0, 0), (.iadd, 1, 0, 0, 0, 0)]
theorem sk_105_23 : segB 11 false prog_13_method_30_code 23 sg_105_23 = true := by decide +kernel
def sg_105_47 : List RI := [(.istore 6, 2, 0, 0, 0, 0), (.aload_n 0, 1, 0, 0, 0, 0), (.getfield 52, 3, 11, 17, 2, 0), (.iload 5, 2, 0, 0, 0, 0)]
theorem sk_105_47 : segB 11 false prog_13_method_30_code 47 sg_105_47 = true := by decide +kernel
def sg_105_56 : List RI := [(.iconst 1, 1, 0, 0, 0, 1)]
theorem sk_105_56 : segB 11 false prog_13_method_30_code 56 sg_105_56 = true := by decide +kernel
def sg_105_60 : List RI := [(.aload_n 0, 1, 0, 0, 0, 0), (.getfield 71, 3, 11, 23, 2, 0), (.iconst 4, 1, 0, 0, 0, 4), (.iload_n 1, 1, 0, 0, 0, 0), (.imul, 1, 0, 0, 0, 0), (.iload 4, 2, 0, 0, 0, 0), (.iadd, 1, 0, 0, 0, 0)]
theorem sk_105_60 : segB 11 false prog_13_method_30_code 60 sg_105_60 = true := by decide +kernel
def sg_105_71 : List RI := [(.iconst (-1), 1, 0, 0, 0, -1)]
theorem sk_105_71 : segB 11 false prog_13_method_30_code 71 sg_105_71 = true := by decide +kernel
def sg_105_75 : List RI := [(.aload_n 0, 1, 0, 0, 0, 0), (.bipush 32, 2, 0, 0, 0, 32), (.aload_n 0, 1, 0, 0, 0, 0), (.getfield 55, 3, 11, 18, 2, 0), (.iload 5, 2, 0, 0, 0, 0)]
theorem sk_105_75 : segB 11 false prog_13_method_30_code 75 sg_105_75 = true := by decide +kernel
def sg_105_85 : List RI := [(.imul, 1, 0, 0, 0, 0), (.aload_n 0, 1, 0, 0, 0, 0), (.getfield 71, 3, 11, 23, 2, 0), (.iconst 4, 1, 0, 0, 0, 4), (.iload_n 1, 1, 0, 0, 0, 0), (.imul, 1, 0, 0, 0, 0), (.iload 4, 2, 0, 0, 0, 0), (.iadd, 1, 0, 0, 0, 0)]
theorem sk_105_85 : segB 11 false prog_13_method_30_code 85 sg_105_85 = true := by decide +kernel
def sg_105_97 : List RI := [(.iadd, 1, 0, 0, 0, 0), (.iload 6, 2, 0, 0, 0, 0)]
theorem sk_105_97 : segB 11 false prog_13_method_30_code 97 sg_105_97 = true := by decide +kernel
def sg_105_106 : List RI := [(.aload_n 0, 1, 0, 0, 0, 0), (.getfield 52, 3, 11, 17, 2, 0), (.iload 5, 2, 0, 0, 0, 0)]
theorem sk_105_106 : segB 11 false prog_13_method_30_code 106 sg_105_106 = true := by decide +kernel
def sg_105_113 : List RI := [(.iconst 2, 1, 0, 0, 0, 2)]
theorem sk_105_113 : segB 11 false prog_13_method_30_code 113 sg_105_113 = true := by decide +kernel
def sg_105_117 : List RI := [(.iconst 0, 1, 0, 0, 0, 0), (.istore 7, 2, 0, 0, 0, 0)]
theorem sk_105_117 : segB 11 false prog_13_method_30_code 117 sg_105_117 = true := by decide +kernel
def sg_105_120 : List RI := [(.iload 7, 2, 0, 0, 0, 0), (.aload_n 0, 1, 0, 0, 0, 0), (.iload_n 1, 1, 0, 0, 0, 0), (.iload 4, 2, 0, 0, 0, 0)]
theorem sk_105_120 : segB 11 false prog_13_method_30_code 120 sg_105_120 = true := by decide +kernel
def sg_105_132 : List RI := [(.aload_n 0, 1, 0, 0, 0, 0), (.bipush 32, 2, 0, 0, 0, 32), (.aload_n 0, 1, 0, 0, 0, 0), (.getfield 55, 3, 11, 18, 2, 0), (.iload 5, 2, 0, 0, 0, 0)]
theorem sk_105_132 : segB 11 false prog_13_method_30_code 132 sg_105_132 = true := by decide +kernel
def sg_105_142 : List RI := [(.imul, 1, 0, 0, 0, 0), (.aload_n 0, 1, 0, 0, 0, 0), (.iload_n 1, 1, 0, 0, 0, 0), (.iload 4, 2, 0, 0, 0, 0), (.iload 7, 2, 0, 0, 0, 0)]
theorem sk_105_142 : segB 11 false prog_13_method_30_code 142 sg_105_142 = true := by decide +kernel
def sg_105_152 : List RI := [(.iadd, 1, 0, 0, 0, 0), (.iload 6, 2, 0, 0, 0, 0)]
theorem sk_105_152 : segB 11 false prog_13_method_30_code 152 sg_105_152 = true := by decide +kernel
def sg_105_158 : List RI := [(.iinc 7 1, 3, 0, 0, 0, 1)]
theorem sk_105_158 : segB 11 false prog_13_method_30_code 158 sg_105_158 = true := by decide +kernel
def sg_105_164 : List RI := [(.iinc 3 1, 3, 0, 0, 0, 1)]
theorem sk_105_164 : segB 11 false prog_13_method_30_code 164 sg_105_164 = true := by decide +kernel
theorem ca_105_8 : decode prog_13_method_30_code 8 = .ok (.iaload, 1) ∧ lnkB 11 false 8 (.iaload, 1, 0, 0, 0, 0) = true := by decide +kernel
theorem ck_105_9 : decode prog_13_method_30_code 9 = .ok (.if_icmp .ge 161, 3) ∧ lnkB 11 false 9 (.if_icmp .ge 161, 3, 170, 0, 0, 0) = true := by decide +kernel
theorem ca_105_22 : decode prog_13_method_30_code 22 = .ok (.iaload, 1) ∧ lnkB 11 false 22 (.iaload, 1, 0, 0, 0, 0) = true := by decide +kernel
theorem ca_105_46 : decode prog_13_method_30_code 46 = .ok (.iaload, 1) ∧ lnkB 11 false 46 (.iaload, 1, 0, 0, 0, 0) = true := by decide +kernel
theorem ca_105_55 : decode prog_13_method_30_code 55 = .ok (.iaload, 1) ∧ lnkB 11 false 55 (.iaload, 1, 0, 0, 0, 0) = true := by decide +kernel
theorem ck_105_57 : decode prog_13_method_30_code 57 = .ok (.if_icmp .ne 49, 3) ∧ lnkB 11 false 57 (.if_icmp .ne 49, 3, 106, 0, 0, 0) = true := by decide +kernel
theorem ca_105_70 : decode prog_13_method_30_code 70 = .ok (.iaload, 1) ∧ lnkB 11 false 70 (.iaload, 1, 0, 0, 0, 0) = true := by decide +kernel
theorem ck_105_72 : decode prog_13_method_30_code 72 = .ok (.if_icmp .eq 34, 3) ∧ lnkB 11 false 72 (.if_icmp .eq 34, 3, 106, 0, 0, 0) = true := by decide +kernel
theorem ca_105_84 : decode prog_13_method_30_code 84 = .ok (.iaload, 1) ∧ lnkB 11 false 84 (.iaload, 1, 0, 0, 0, 0) = true := by decide +kernel
theorem ca_105_96 : decode prog_13_method_30_code 96 = .ok (.iaload, 1) ∧ lnkB 11 false 96 (.iaload, 1, 0, 0, 0, 0) = true := by decide +kernel
theorem ck_105_100 : decode prog_13_method_30_code 100 = .ok (.invokevirtual 237, 3) ∧ lnkB 11 false 100 (.invokevirtual 237, 3, 103, 0, 0, 0) = true := by decide +kernel
theorem ck_105_103 : decode prog_13_method_30_code 103 = .ok (.goto 61, 3) ∧ lnkB 11 false 103 (.goto 61, 3, 164, 0, 0, 0) = true := by decide +kernel
theorem ca_105_112 : decode prog_13_method_30_code 112 = .ok (.iaload, 1) ∧ lnkB 11 false 112 (.iaload, 1, 0, 0, 0, 0) = true := by decide +kernel
theorem ck_105_114 : decode prog_13_method_30_code 114 = .ok (.if_icmp .ne 50, 3) ∧ lnkB 11 false 114 (.if_icmp .ne 50, 3, 164, 0, 0, 0) = true := by decide +kernel
theorem ck_105_126 : decode prog_13_method_30_code 126 = .ok (.invokevirtual 240, 3) ∧ lnkB 11 false 126 (.invokevirtual 240, 3, 106, 0, 0, 0) = true := by decide +kernel
theorem ck_105_129 : decode prog_13_method_30_code 129 = .ok (.if_icmp .ge 35, 3) ∧ lnkB 11 false 129 (.if_icmp .ge 35, 3, 164, 0, 0, 0) = true := by decide +kernel
theorem ca_105_141 : decode prog_13_method_30_code 141 = .ok (.iaload, 1) ∧ lnkB 11 false 141 (.iaload, 1, 0, 0, 0, 0) = true := by decide +kernel
theorem ck_105_149 : decode prog_13_method_30_code 149 = .ok (.invokevirtual 244, 3) ∧ lnkB 11 false 149 (.invokevirtual 244, 3, 107, 0, 0, 0) = true := by decide +kernel
theorem ck_105_155 : decode prog_13_method_30_code 155 = .ok (.invokevirtual 237, 3) ∧ lnkB 11 false 155 (.invokevirtual 237, 3, 103, 0, 0, 0) = true := by decide +kernel
theorem ck_105_161 : decode prog_13_method_30_code 161 = .ok (.goto (-41), 3) ∧ lnkB 11 false 161 (.goto (-41), 3, 120, 0, 0, 0) = true := by decide +kernel
theorem ck_105_167 : decode prog_13_method_30_code 167 = .ok (.goto (-165), 3) ∧ lnkB 11 false 167 (.goto (-165), 3, 2, 0, 0, 0) = true := by decide +kernel
theorem ck_105_170 : decode prog_13_method_30_code 170 = .ok (.return_, 1) ∧ lnkB 11 false 170 (.return_, 1, 0, 0, 0, 0) = true := by decide +kernel
abbrev RU_105 (d : Nat) (cp : Nat × Nat) (Post : Option Value → Sto → Prop) : PP := Runs (Ex d) prog_13_method_30_code 11 false 8 none none cp Post
theorem en_105 {d : Nat} {As : List Value} {S : Sto} {mc ms : Nat} {Post : Option Value → Sto → Prop} (hc : cats As ≤ 8) (h : RU_105 d (mc, ms) Post 0 (lv_args 0 As) [] S 0 0) : Ex (d + 1) 105 As S mc ms Post := ⟨by decide, hc, h⟩
def sg_106_0 : List RI := [(.aload_n 0, 1, 0, 0, 0, 0), (.getfield 74, 3, 11, 24, 2, 0), (.iconst 4, 1, 0, 0, 0, 4), (.iload_n 1, 1, 0, 0, 0, 0), (.imul, 1, 0, 0, 0, 0), (.iload_n 2, 1, 0, 0, 0, 0), (.iadd, 1, 0, 0, 0, 0)]
theorem sk_106_0 : segB 11 false prog_13_method_28_code 0 sg_106_0 = true := by decide +kernel
def sg_106_10 : List RI := [(.istore_n 3, 1, 0, 0, 0, 0), (.aload_n 0, 1, 0, 0, 0, 0), (.getfield 58, 3, 11, 19, 2, 0), (.iconst 4, 1, 0, 0, 0, 4), (.iload_n 1, 1, 0, 0, 0, 0), (.bipush 32, 2, 0, 0, 0, 32), (.idiv, 1, 0, 0, 0, 0), (.imul, 1, 0, 0, 0, 0), (.iload_n 2, 1, 0, 0, 0, 0), (.iadd, 1, 0, 0, 0, 0)]
theorem sk_106_10 : segB 11 false prog_13_method_28_code 10 sg_106_10 = true := by decide +kernel
def sg_106_24 : List RI := [(.istore 4, 2, 0, 0, 0, 0), (.iload_n 3, 1, 0, 0, 0, 0), (.iload 4, 2, 0, 0, 0, 0)]
theorem sk_106_24 : segB 11 false prog_13_method_28_code 24 sg_106_24 = true := by decide +kernel
def sg_106_32 : List RI := [(.iload_n 3, 1, 0, 0, 0, 0)]
theorem sk_106_32 : segB 11 false prog_13_method_28_code 32 sg_106_32 = true := by decide +kernel
def sg_106_36 : List RI := [(.iload 4, 2, 0, 0, 0, 0)]
theorem sk_106_36 : segB 11 false prog_13_method_28_code 36 sg_106_36 = true := by decide +kernel
theorem ca_106_9 : decode prog_13_method_28_code 9 = .ok (.iaload, 1) ∧ lnkB 11 false 9 (.iaload, 1, 0, 0, 0, 0) = true := by decide +kernel
theorem ca_106_23 : decode prog_13_method_28_code 23 = .ok (.iaload, 1) ∧ lnkB 11 false 23 (.iaload, 1, 0, 0, 0, 0) = true := by decide +kernel
theorem ck_106_29 : decode prog_13_method_28_code 29 = .ok (.if_icmp .ge 7, 3) ∧ lnkB 11 false 29 (.if_icmp .ge 7, 3, 36, 0, 0, 0) = true := by decide +kernel
theorem ck_106_33 : decode prog_13_method_28_code 33 = .ok (.goto 5, 3) ∧ lnkB 11 false 33 (.goto 5, 3, 38, 0, 0, 0) = true := by decide +kernel
theorem ck_106_38 : decode prog_13_method_28_code 38 = .ok (.ireturn, 1) ∧ lnkB 11 false 38 (.ireturn, 1, 0, 0, 0, 0) = true := by decide +kernel
abbrev RU_106 (d : Nat) (cp : Nat × Nat) (Post : Option Value → Sto → Prop) : PP := Runs (Ex d) prog_13_method_28_code 11 false 5 (some .int) none cp Post
theorem en_106 {d : Nat} {As : List Value} {S : Sto} {mc ms : Nat} {Post : Option Value → Sto → Prop} (hc : cats As ≤ 5) (h : RU_106 d (mc, ms) Post 0 (lv_args 0 As) [] S 0 0) : Ex (d + 1) 106 As S mc ms Post := ⟨by decide, hc, h⟩
def sg_107_0 : List RI := [(.aload_n 0, 1, 0, 0, 0, 0), (.getfield 77, 3, 11, 25, 2, 0), (.iconst 4, 1, 0, 0, 0, 4), (.iload_n 1, 1, 0, 0, 0, 0), (.imul, 1, 0, 0, 0, 0), (.iload_n 2, 1, 0, 0, 0, 0), (.iadd, 1, 0, 0, 0, 0)]
theorem sk_107_0 : segB 11 false prog_13_method_29_code 0 sg_107_0 = true := by decide +kernel
def sg_107_10 : List RI := [(.iconst 5, 1, 0, 0, 0, 5), (.iload_n 3, 1, 0, 0, 0, 0), (.imul, 1, 0, 0, 0, 0), (.ishr, 1, 0, 0, 0, 0), (.bipush 31, 2, 0, 0, 0, 31), (.iand, 1, 0, 0, 0, 0)]
theorem sk_107_10 : segB 11 false prog_13_method_29_code 10 sg_107_10 = true := by decide +kernel
theorem ca_107_9 : decode prog_13_method_29_code 9 = .ok (.iaload, 1) ∧ lnkB 11 false 9 (.iaload, 1, 0, 0, 0, 0) = true := by decide +kernel
theorem ck_107_17 : decode prog_13_method_29_code 17 = .ok (.ireturn, 1) ∧ lnkB 11 false 17 (.ireturn, 1, 0, 0, 0, 0) = true := by decide +kernel
abbrev RU_107 (d : Nat) (cp : Nat × Nat) (Post : Option Value → Sto → Prop) : PP := Runs (Ex d) prog_13_method_29_code 11 false 4 (some .int) none cp Post
theorem en_107 {d : Nat} {As : List Value} {S : Sto} {mc ms : Nat} {Post : Option Value → Sto → Prop} (hc : cats As ≤ 4) (h : RU_107 d (mc, ms) Post 0 (lv_args 0 As) [] S 0 0) : Ex (d + 1) 107 As S mc ms Post := ⟨by decide, hc, h⟩
def sg_108_0 : List RI := [(.aload_n 0, 1, 0, 0, 0, 0), (.getfield 254, 3, 11, 51, 0, 0), (.istore_n 1, 1, 0, 0, 0, 0), (.iconst 0, 1, 0, 0, 0, 0), (.istore_n 2, 1, 0, 0, 0, 0)]
theorem sk_108_0 : segB 11 false prog_13_method_37_code 0 sg_108_0 = true := by decide +kernel
def sg_108_7 : List RI := [(.iload_n 2, 1, 0, 0, 0, 0), (.iload_n 1, 1, 0, 0, 0, 0)]
theorem sk_108_7 : segB 11 false prog_13_method_37_code 7 sg_108_7 = true := by decide +kernel
def sg_108_12 : List RI := [(.aload_n 0, 1, 0, 0, 0, 0), (.getfield 145, 3, 11, 56, 2, 0), (.iload_n 2, 1, 0, 0, 0, 0)]
theorem sk_108_12 : segB 11 false prog_13_method_37_code 12 sg_108_12 = true := by decide +kernel
def sg_108_18 : List RI := [(.iconst 3, 1, 0, 0, 0, 3)]
theorem sk_108_18 : segB 11 false prog_13_method_37_code 18 sg_108_18 = true := by decide +kernel
def sg_108_22 : List RI := [(.aload_n 0, 1, 0, 0, 0, 0), (.getfield 139, 3, 11, 54, 2, 0), (.iload_n 2, 1, 0, 0, 0, 0)]
theorem sk_108_22 : segB 11 false prog_13_method_37_code 22 sg_108_22 = true := by decide +kernel
def sg_108_28 : List RI := [(.aload_n 0, 1, 0, 0, 0, 0), (.getfield 9, 3, 11, 2, 2, 0), (.aload_n 0, 1, 0, 0, 0, 0), (.getfield 133, 3, 11, 52, 2, 0), (.iload_n 2, 1, 0, 0, 0, 0)]
theorem sk_108_28 : segB 11 false prog_13_method_37_code 28 sg_108_28 = true := by decide +kernel
def sg_108_39 : List RI := [(.iadd, 1, 0, 0, 0, 0), (.aload_n 0, 1, 0, 0, 0, 0), (.getfield 176, 3, 11, 1, 0, 0)]
theorem sk_108_39 : segB 11 false prog_13_method_37_code 39 sg_108_39 = true := by decide +kernel
def sg_108_47 : List RI := [(.aload_n 0, 1, 0, 0, 0, 0), (.iload_n 2, 1, 0, 0, 0, 0)]
theorem sk_108_47 : segB 11 false prog_13_method_37_code 47 sg_108_47 = true := by decide +kernel
def sg_108_52 : List RI := [(.iinc 2 1, 3, 0, 0, 0, 1)]
theorem sk_108_52 : segB 11 false prog_13_method_37_code 52 sg_108_52 = true := by decide +kernel
theorem ck_108_9 : decode prog_13_method_37_code 9 = .ok (.if_icmp .ge 49, 3) ∧ lnkB 11 false 9 (.if_icmp .ge 49, 3, 58, 0, 0, 0) = true := by decide +kernel
theorem ca_108_17 : decode prog_13_method_37_code 17 = .ok (.iaload, 1) ∧ lnkB 11 false 17 (.iaload, 1, 0, 0, 0, 0) = true := by decide +kernel
theorem ck_108_19 : decode prog_13_method_37_code 19 = .ok (.if_icmp .ne 33, 3) ∧ lnkB 11 false 19 (.if_icmp .ne 33, 3, 52, 0, 0, 0) = true := by decide +kernel
theorem ca_108_27 : decode prog_13_method_37_code 27 = .ok (.iaload, 1) ∧ lnkB 11 false 27 (.iaload, 1, 0, 0, 0, 0) = true := by decide +kernel
theorem ca_108_37 : decode prog_13_method_37_code 37 = .ok (.iaload, 1) ∧ lnkB 11 false 37 (.iaload, 1, 0, 0, 0, 0) = true := by decide +kernel
theorem ca_108_38 : decode prog_13_method_37_code 38 = .ok (.iaload, 1) ∧ lnkB 11 false 38 (.iaload, 1, 0, 0, 0, 0) = true := by decide +kernel
theorem ck_108_44 : decode prog_13_method_37_code 44 = .ok (.if_icmp .ne 8, 3) ∧ lnkB 11 false 44 (.if_icmp .ne 8, 3, 52, 0, 0, 0) = true := by decide +kernel
theorem ck_108_49 : decode prog_13_method_37_code 49 = .ok (.invokevirtual 263, 3) ∧ lnkB 11 false 49 (.invokevirtual 263, 3, 109, 0, 0, 0) = true := by decide +kernel
theorem ck_108_55 : decode prog_13_method_37_code 55 = .ok (.goto (-48), 3) ∧ lnkB 11 false 55 (.goto (-48), 3, 7, 0, 0, 0) = true := by decide +kernel
theorem ck_108_58 : decode prog_13_method_37_code 58 = .ok (.return_, 1) ∧ lnkB 11 false 58 (.return_, 1, 0, 0, 0, 0) = true := by decide +kernel
abbrev RU_108 (d : Nat) (cp : Nat × Nat) (Post : Option Value → Sto → Prop) : PP := Runs (Ex d) prog_13_method_37_code 11 false 3 none none cp Post
theorem en_108 {d : Nat} {As : List Value} {S : Sto} {mc ms : Nat} {Post : Option Value → Sto → Prop} (hc : cats As ≤ 3) (h : RU_108 d (mc, ms) Post 0 (lv_args 0 As) [] S 0 0) : Ex (d + 1) 108 As S mc ms Post := ⟨by decide, hc, h⟩
def sg_109_0 : List RI := [(.aload_n 0, 1, 0, 0, 0, 0), (.getfield 133, 3, 11, 52, 2, 0), (.iload_n 1, 1, 0, 0, 0, 0)]
theorem sk_109_0 : segB 11 false prog_13_method_32_code 0 sg_109_0 = true := by decide +kernel
def sg_109_6 : List RI := [(.istore_n 2, 1, 0, 0, 0, 0), (.aload_n 0, 1, 0, 0, 0, 0), (.iload_n 2, 1, 0, 0, 0, 0), (.aload_n 0, 1, 0, 0, 0, 0), (.getfield 139, 3, 11, 54, 2, 0), (.iload_n 1, 1, 0, 0, 0, 0)]
theorem sk_109_6 : segB 11 false prog_13_method_32_code 6 sg_109_6 = true := by decide +kernel
def sg_109_18 : List RI := [(.istore_n 3, 1, 0, 0, 0, 0), (.aload_n 0, 1, 0, 0, 0, 0), (.getfield 145, 3, 11, 56, 2, 0), (.iload_n 1, 1, 0, 0, 0, 0), (.iload_n 3, 1, 0, 0, 0, 0)]
theorem sk_109_18 : segB 11 false prog_13_method_32_code 18 sg_109_18 = true := by decide +kernel
def sg_109_28 : List RI := [(.iconst 1, 1, 0, 0, 0, 1)]
theorem sk_109_28 : segB 11 false prog_13_method_32_code 28 sg_109_28 = true := by decide +kernel
def sg_109_32 : List RI := [(.iconst 0, 1, 0, 0, 0, 0)]
theorem sk_109_32 : segB 11 false prog_13_method_32_code 32 sg_109_32 = true := by decide +kernel
def sg_109_34 : List RI := [(.aload_n 0, 1, 0, 0, 0, 0), (.getfield 31, 3, 11, 9, 2, 0), (.iload_n 2, 1, 0, 0, 0, 0)]
theorem sk_109_34 : segB 11 false prog_13_method_32_code 34 sg_109_34 = true := by decide +kernel
def sg_109_40 : List RI := [(.iload_n 1, 1, 0, 0, 0, 0)]
theorem sk_109_40 : segB 11 false prog_13_method_32_code 40 sg_109_40 = true := by decide +kernel
def sg_109_44 : List RI := [(.iload_n 3, 1, 0, 0, 0, 0)]
theorem sk_109_44 : segB 11 false prog_13_method_32_code 44 sg_109_44 = true := by decide +kernel
def sg_109_48 : List RI := [(.aload_n 0, 1, 0, 0, 0, 0), (.iload_n 2, 1, 0, 0, 0, 0)]
theorem sk_109_48 : segB 11 false prog_13_method_32_code 48 sg_109_48 = true := by decide +kernel
def sg_109_56 : List RI := [(.aload_n 0, 1, 0, 0, 0, 0), (.getfield 28, 3, 11, 8, 2, 0), (.iload_n 2, 1, 0, 0, 0, 0), (.iconst (-1), 1, 0, 0, 0, -1)]
theorem sk_109_56 : segB 11 false prog_13_method_32_code 56 sg_109_56 = true := by decide +kernel
def sg_109_63 : List RI := [(.aload_n 0, 1, 0, 0, 0, 0), (.getfield 25, 3, 11, 7, 2, 0), (.iload_n 2, 1, 0, 0, 0, 0), (.iconst 0, 1, 0, 0, 0, 0)]
theorem sk_109_63 : segB 11 false prog_13_method_32_code 63 sg_109_63 = true := by decide +kernel
def sg_109_70 : List RI := [(.aload_n 0, 1, 0, 0, 0, 0), (.getfield 31, 3, 11, 9, 2, 0), (.iload_n 2, 1, 0, 0, 0, 0), (.iconst (-1), 1, 0, 0, 0, -1)]
theorem sk_109_70 : segB 11 false prog_13_method_32_code 70 sg_109_70 = true := by decide +kernel
def sg_109_80 : List RI := [(.aload_n 0, 1, 0, 0, 0, 0), (.getfield 28, 3, 11, 8, 2, 0), (.iload_n 2, 1, 0, 0, 0, 0)]
theorem sk_109_80 : segB 11 false prog_13_method_32_code 80 sg_109_80 = true := by decide +kernel
def sg_109_86 : List RI := [(.iconst (-1), 1, 0, 0, 0, -1)]
theorem sk_109_86 : segB 11 false prog_13_method_32_code 86 sg_109_86 = true := by decide +kernel
def sg_109_90 : List RI := [(.aload_n 0, 1, 0, 0, 0, 0), (.getfield 19, 3, 11, 5, 2, 0), (.iload_n 2, 1, 0, 0, 0, 0)]
theorem sk_109_90 : segB 11 false prog_13_method_32_code 90 sg_109_90 = true := by decide +kernel
def sg_109_99 : List RI := [(.aload_n 0, 1, 0, 0, 0, 0), (.getfield 25, 3, 11, 7, 2, 0), (.iload_n 2, 1, 0, 0, 0, 0), (.iload_n 3, 1, 0, 0, 0, 0)]
theorem sk_109_99 : segB 11 false prog_13_method_32_code 99 sg_109_99 = true := by decide +kernel
def sg_109_108 : List RI := [(.aload_n 0, 1, 0, 0, 0, 0), (.getfield 25, 3, 11, 7, 2, 0), (.iload_n 2, 1, 0, 0, 0, 0)]
theorem sk_109_108 : segB 11 false prog_13_method_32_code 108 sg_109_108 = true := by decide +kernel
def sg_109_114 : List RI := [(.iconst 1, 1, 0, 0, 0, 1), (.iadd, 1, 0, 0, 0, 0)]
theorem sk_109_114 : segB 11 false prog_13_method_32_code 114 sg_109_114 = true := by decide +kernel
def sg_109_119 : List RI := [(.iconst 0, 1, 0, 0, 0, 0)]
theorem sk_109_119 : segB 11 false prog_13_method_32_code 119 sg_109_119 = true := by decide +kernel
def sg_109_121 : List RI := [(.aload_n 0, 1, 0, 0, 0, 0), (.getfield 25, 3, 11, 7, 2, 0), (.iload_n 2, 1, 0, 0, 0, 0)]
theorem sk_109_121 : segB 11 false prog_13_method_32_code 121 sg_109_121 = true := by decide +kernel
def sg_109_127 : List RI := [(.aload_n 0, 1, 0, 0, 0, 0), (.getfield 19, 3, 11, 5, 2, 0), (.iload_n 2, 1, 0, 0, 0, 0)]
theorem sk_109_127 : segB 11 false prog_13_method_32_code 127 sg_109_127 = true := by decide +kernel
def sg_109_136 : List RI := [(.aload_n 0, 1, 0, 0, 0, 0), (.iload_n 2, 1, 0, 0, 0, 0)]
theorem sk_109_136 : segB 11 false prog_13_method_32_code 136 sg_109_136 = true := by decide +kernel
def sg_109_141 : List RI := [(.iconst 0, 1, 0, 0, 0, 0), (.istore 4, 2, 0, 0, 0, 0)]
theorem sk_109_141 : segB 11 false prog_13_method_32_code 141 sg_109_141 = true := by decide +kernel
def sg_109_144 : List RI := [(.iload 4, 2, 0, 0, 0, 0), (.aload_n 0, 1, 0, 0, 0, 0), (.getfield 142, 3, 11, 55, 2, 0), (.iload_n 1, 1, 0, 0, 0, 0)]
theorem sk_109_144 : segB 11 false prog_13_method_32_code 144 sg_109_144 = true := by decide +kernel
def sg_109_155 : List RI := [(.bipush 32, 2, 0, 0, 0, 32), (.aload_n 0, 1, 0, 0, 0, 0), (.getfield 136, 3, 11, 53, 2, 0), (.iload_n 1, 1, 0, 0, 0, 0)]
theorem sk_109_155 : segB 11 false prog_13_method_32_code 155 sg_109_155 = true := by decide +kernel
def sg_109_163 : List RI := [(.imul, 1, 0, 0, 0, 0), (.aload_n 0, 1, 0, 0, 0, 0), (.getfield 148, 3, 11, 57, 2, 0), (.bipush 8, 2, 0, 0, 0, 8), (.iload_n 1, 1, 0, 0, 0, 0), (.imul, 1, 0, 0, 0, 0), (.iload 4, 2, 0, 0, 0, 0), (.iadd, 1, 0, 0, 0, 0)]
theorem sk_109_163 : segB 11 false prog_13_method_32_code 163 sg_109_163 = true := by decide +kernel
def sg_109_176 : List RI := [(.iadd, 1, 0, 0, 0, 0), (.istore 5, 2, 0, 0, 0, 0), (.iload_n 3, 1, 0, 0, 0, 0)]
theorem sk_109_176 : segB 11 false prog_13_method_32_code 176 sg_109_176 = true := by decide +kernel
def sg_109_183 : List RI := [(.aload_n 0, 1, 0, 0, 0, 0), (.iload 5, 2, 0, 0, 0, 0), (.iconst 3, 1, 0, 0, 0, 3)]
theorem sk_109_183 : segB 11 false prog_13_method_32_code 183 sg_109_183 = true := by decide +kernel
def sg_109_193 : List RI := [(.aload_n 0, 1, 0, 0, 0, 0), (.getfield 65, 3, 11, 21, 2, 0), (.iload 5, 2, 0, 0, 0, 0)]
theorem sk_109_193 : segB 11 false prog_13_method_32_code 193 sg_109_193 = true := by decide +kernel
def sg_109_203 : List RI := [(.aload_n 0, 1, 0, 0, 0, 0), (.iload 5, 2, 0, 0, 0, 0), (.iconst 2, 1, 0, 0, 0, 2)]
theorem sk_109_203 : segB 11 false prog_13_method_32_code 203 sg_109_203 = true := by decide +kernel
def sg_109_213 : List RI := [(.aload_n 0, 1, 0, 0, 0, 0), (.getfield 121, 3, 11, 44, 2, 0), (.iload 5, 2, 0, 0, 0, 0), (.iconst 3, 1, 0, 0, 0, 3)]
theorem sk_109_213 : segB 11 false prog_13_method_32_code 213 sg_109_213 = true := by decide +kernel
def sg_109_221 : List RI := [(.aload_n 0, 1, 0, 0, 0, 0), (.getfield 80, 3, 11, 26, 2, 0), (.iload 5, 2, 0, 0, 0, 0), (.aload_n 0, 1, 0, 0, 0, 0), (.getfield 49, 3, 11, 16, 2, 0), (.iload 5, 2, 0, 0, 0, 0), (.bipush 32, 2, 0, 0, 0, 32), (.idiv, 1, 0, 0, 0, 0)]
theorem sk_109_221 : segB 11 false prog_13_method_32_code 221 sg_109_221 = true := by decide +kernel
def sg_109_240 : List RI := [(.aload_n 0, 1, 0, 0, 0, 0), (.getfield 176, 3, 11, 1, 0, 0), (.aload_n 0, 1, 0, 0, 0, 0), (.getfield 49, 3, 11, 16, 2, 0), (.iload 5, 2, 0, 0, 0, 0), (.bipush 32, 2, 0, 0, 0, 32), (.idiv, 1, 0, 0, 0, 0)]
theorem sk_109_240 : segB 11 false prog_13_method_32_code 240 sg_109_240 = true := by decide +kernel
def sg_109_254 : List RI := [(.iadd, 1, 0, 0, 0, 0)]
theorem sk_109_254 : segB 11 false prog_13_method_32_code 254 sg_109_254 = true := by decide +kernel
def sg_109_258 : List RI := [(.iconst (-1), 1, 0, 0, 0, -1)]
theorem sk_109_258 : segB 11 false prog_13_method_32_code 258 sg_109_258 = true := by decide +kernel
def sg_109_260 : List RI := [(.iconst 0, 1, 0, 0, 0, 0), (.istore 6, 2, 0, 0, 0, 0)]
theorem sk_109_260 : segB 11 false prog_13_method_32_code 260 sg_109_260 = true := by decide +kernel
def sg_109_263 : List RI := [(.iload 6, 2, 0, 0, 0, 0), (.aload_n 0, 1, 0, 0, 0, 0), (.getfield 195, 3, 11, 35, 0, 0)]
theorem sk_109_263 : segB 11 false prog_13_method_32_code 263 sg_109_263 = true := by decide +kernel
def sg_109_272 : List RI := [(.aload_n 0, 1, 0, 0, 0, 0), (.getfield 127, 3, 11, 46, 2, 0), (.bipush 20, 2, 0, 0, 0, 20), (.iload 5, 2, 0, 0, 0, 0), (.imul, 1, 0, 0, 0, 0), (.iload 6, 2, 0, 0, 0, 0), (.iadd, 1, 0, 0, 0, 0)]
theorem sk_109_272 : segB 11 false prog_13_method_32_code 272 sg_109_272 = true := by decide +kernel
def sg_109_288 : List RI := [(.aload_n 0, 1, 0, 0, 0, 0), (.iload 5, 2, 0, 0, 0, 0), (.iload 6, 2, 0, 0, 0, 0)]
theorem sk_109_288 : segB 11 false prog_13_method_32_code 288 sg_109_288 = true := by decide +kernel
def sg_109_296 : List RI := [(.iinc 6 1, 3, 0, 0, 0, 1)]
theorem sk_109_296 : segB 11 false prog_13_method_32_code 296 sg_109_296 = true := by decide +kernel
def sg_109_302 : List RI := [(.iinc 4 1, 3, 0, 0, 0, 1)]
theorem sk_109_302 : segB 11 false prog_13_method_32_code 302 sg_109_302 = true := by decide +kernel
theorem ca_109_5 : decode prog_13_method_32_code 5 = .ok (.iaload, 1) ∧ lnkB 11 false 5 (.iaload, 1, 0, 0, 0, 0) = true := by decide +kernel
theorem ca_109_14 : decode prog_13_method_32_code 14 = .ok (.iaload, 1) ∧ lnkB 11 false 14 (.iaload, 1, 0, 0, 0, 0) = true := by decide +kernel
theorem ck_109_15 : decode prog_13_method_32_code 15 = .ok (.invokevirtual 248, 3) ∧ lnkB 11 false 15 (.invokevirtual 248, 3, 110, 0, 0, 0) = true := by decide +kernel
theorem ck_109_25 : decode prog_13_method_32_code 25 = .ok (.ifCond .eq 7, 3) ∧ lnkB 11 false 25 (.ifCond .eq 7, 3, 32, 0, 0, 0) = true := by decide +kernel
theorem ck_109_29 : decode prog_13_method_32_code 29 = .ok (.goto 4, 3) ∧ lnkB 11 false 29 (.goto 4, 3, 33, 0, 0, 0) = true := by decide +kernel
theorem ca_109_33 : decode prog_13_method_32_code 33 = .ok (.iastore, 1) ∧ lnkB 11 false 33 (.iastore, 1, 0, 0, 0, 0) = true := by decide +kernel
theorem ca_109_39 : decode prog_13_method_32_code 39 = .ok (.iaload, 1) ∧ lnkB 11 false 39 (.iaload, 1, 0, 0, 0, 0) = true := by decide +kernel
theorem ck_109_41 : decode prog_13_method_32_code 41 = .ok (.if_icmp .ne 39, 3) ∧ lnkB 11 false 41 (.if_icmp .ne 39, 3, 80, 0, 0, 0) = true := by decide +kernel
theorem ck_109_45 : decode prog_13_method_32_code 45 = .ok (.ifCond .eq 11, 3) ∧ lnkB 11 false 45 (.ifCond .eq 11, 3, 56, 0, 0, 0) = true := by decide +kernel
theorem ck_109_50 : decode prog_13_method_32_code 50 = .ok (.invokevirtual 251, 3) ∧ lnkB 11 false 50 (.invokevirtual 251, 3, 111, 0, 0, 0) = true := by decide +kernel
theorem ck_109_53 : decode prog_13_method_32_code 53 = .ok (.goto 88, 3) ∧ lnkB 11 false 53 (.goto 88, 3, 141, 0, 0, 0) = true := by decide +kernel
theorem ca_109_62 : decode prog_13_method_32_code 62 = .ok (.iastore, 1) ∧ lnkB 11 false 62 (.iastore, 1, 0, 0, 0, 0) = true := by decide +kernel
theorem ca_109_69 : decode prog_13_method_32_code 69 = .ok (.iastore, 1) ∧ lnkB 11 false 69 (.iastore, 1, 0, 0, 0, 0) = true := by decide +kernel
theorem ca_109_76 : decode prog_13_method_32_code 76 = .ok (.iastore, 1) ∧ lnkB 11 false 76 (.iastore, 1, 0, 0, 0, 0) = true := by decide +kernel
theorem ck_109_77 : decode prog_13_method_32_code 77 = .ok (.goto 64, 3) ∧ lnkB 11 false 77 (.goto 64, 3, 141, 0, 0, 0) = true := by decide +kernel
theorem ca_109_85 : decode prog_13_method_32_code 85 = .ok (.iaload, 1) ∧ lnkB 11 false 85 (.iaload, 1, 0, 0, 0, 0) = true := by decide +kernel
theorem ck_109_87 : decode prog_13_method_32_code 87 = .ok (.if_icmp .ne 54, 3) ∧ lnkB 11 false 87 (.if_icmp .ne 54, 3, 141, 0, 0, 0) = true := by decide +kernel
theorem ca_109_95 : decode prog_13_method_32_code 95 = .ok (.iaload, 1) ∧ lnkB 11 false 95 (.iaload, 1, 0, 0, 0, 0) = true := by decide +kernel
theorem ck_109_96 : decode prog_13_method_32_code 96 = .ok (.ifCond .le 45, 3) ∧ lnkB 11 false 96 (.ifCond .le 45, 3, 141, 0, 0, 0) = true := by decide +kernel
theorem ck_109_105 : decode prog_13_method_32_code 105 = .ok (.ifCond .eq 14, 3) ∧ lnkB 11 false 105 (.ifCond .eq 14, 3, 119, 0, 0, 0) = true := by decide +kernel
theorem ca_109_113 : decode prog_13_method_32_code 113 = .ok (.iaload, 1) ∧ lnkB 11 false 113 (.iaload, 1, 0, 0, 0, 0) = true := by decide +kernel
theorem ck_109_116 : decode prog_13_method_32_code 116 = .ok (.goto 4, 3) ∧ lnkB 11 false 116 (.goto 4, 3, 120, 0, 0, 0) = true := by decide +kernel
theorem ca_109_120 : decode prog_13_method_32_code 120 = .ok (.iastore, 1) ∧ lnkB 11 false 120 (.iastore, 1, 0, 0, 0, 0) = true := by decide +kernel
theorem ca_109_126 : decode prog_13_method_32_code 126 = .ok (.iaload, 1) ∧ lnkB 11 false 126 (.iaload, 1, 0, 0, 0, 0) = true := by decide +kernel
theorem ca_109_132 : decode prog_13_method_32_code 132 = .ok (.iaload, 1) ∧ lnkB 11 false 132 (.iaload, 1, 0, 0, 0, 0) = true := by decide +kernel
theorem ck_109_133 : decode prog_13_method_32_code 133 = .ok (.if_icmp .ne 8, 3) ∧ lnkB 11 false 133 (.if_icmp .ne 8, 3, 141, 0, 0, 0) = true := by decide +kernel
theorem ck_109_138 : decode prog_13_method_32_code 138 = .ok (.invokevirtual 251, 3) ∧ lnkB 11 false 138 (.invokevirtual 251, 3, 111, 0, 0, 0) = true := by decide +kernel
theorem ca_109_151 : decode prog_13_method_32_code 151 = .ok (.iaload, 1) ∧ lnkB 11 false 151 (.iaload, 1, 0, 0, 0, 0) = true := by decide +kernel
theorem ck_109_152 : decode prog_13_method_32_code 152 = .ok (.if_icmp .ge 156, 3) ∧ lnkB 11 false 152 (.if_icmp .ge 156, 3, 308, 0, 0, 0) = true := by decide +kernel
theorem ca_109_162 : decode prog_13_method_32_code 162 = .ok (.iaload, 1) ∧ lnkB 11 false 162 (.iaload, 1, 0, 0, 0, 0) = true := by decide +kernel
theorem ca_109_175 : decode prog_13_method_32_code 175 = .ok (.iaload, 1) ∧ lnkB 11 false 175 (.iaload, 1, 0, 0, 0, 0) = true := by decide +kernel
theorem ck_109_180 : decode prog_13_method_32_code 180 = .ok (.ifCond .eq 13, 3) ∧ lnkB 11 false 180 (.ifCond .eq 13, 3, 193, 0, 0, 0) = true := by decide +kernel
theorem ck_109_187 : decode prog_13_method_32_code 187 = .ok (.invokevirtual 226, 3) ∧ lnkB 11 false 187 (.invokevirtual 226, 3, 104, 0, 0, 0) = true := by decide +kernel
theorem ck_109_190 : decode prog_13_method_32_code 190 = .ok (.goto 112, 3) ∧ lnkB 11 false 190 (.goto 112, 3, 302, 0, 0, 0) = true := by decide +kernel
theorem ca_109_199 : decode prog_13_method_32_code 199 = .ok (.baload, 1) ∧ lnkB 11 false 199 (.baload, 1, 15, 0, 0, 0) = true := by decide +kernel
theorem ck_109_200 : decode prog_13_method_32_code 200 = .ok (.ifCond .ne 13, 3) ∧ lnkB 11 false 200 (.ifCond .ne 13, 3, 213, 0, 0, 0) = true := by decide +kernel
theorem ck_109_207 : decode prog_13_method_32_code 207 = .ok (.invokevirtual 226, 3) ∧ lnkB 11 false 207 (.invokevirtual 226, 3, 104, 0, 0, 0) = true := by decide +kernel
theorem ck_109_210 : decode prog_13_method_32_code 210 = .ok (.goto 92, 3) ∧ lnkB 11 false 210 (.goto 92, 3, 302, 0, 0, 0) = true := by decide +kernel
theorem ca_109_220 : decode prog_13_method_32_code 220 = .ok (.iastore, 1) ∧ lnkB 11 false 220 (.iastore, 1, 0, 0, 0, 0) = true := by decide +kernel
theorem ca_109_236 : decode prog_13_method_32_code 236 = .ok (.iaload, 1) ∧ lnkB 11 false 236 (.iaload, 1, 0, 0, 0, 0) = true := by decide +kernel
theorem ck_109_237 : decode prog_13_method_32_code 237 = .ok (.ifCond .le 21, 3) ∧ lnkB 11 false 237 (.ifCond .le 21, 3, 258, 0, 0, 0) = true := by decide +kernel
theorem ca_109_253 : decode prog_13_method_32_code 253 = .ok (.iaload, 1) ∧ lnkB 11 false 253 (.iaload, 1, 0, 0, 0, 0) = true := by decide +kernel
theorem ck_109_255 : decode prog_13_method_32_code 255 = .ok (.goto 4, 3) ∧ lnkB 11 false 255 (.goto 4, 3, 259, 0, 0, 0) = true := by decide +kernel
theorem ca_109_259 : decode prog_13_method_32_code 259 = .ok (.iastore, 1) ∧ lnkB 11 false 259 (.iastore, 1, 0, 0, 0, 0) = true := by decide +kernel
theorem ck_109_269 : decode prog_13_method_32_code 269 = .ok (.if_icmp .ge 33, 3) ∧ lnkB 11 false 269 (.if_icmp .ge 33, 3, 302, 0, 0, 0) = true := by decide +kernel
theorem ca_109_284 : decode prog_13_method_32_code 284 = .ok (.baload, 1) ∧ lnkB 11 false 284 (.baload, 1, 15, 0, 0, 0) = true := by decide +kernel
theorem ck_109_285 : decode prog_13_method_32_code 285 = .ok (.ifCond .eq 11, 3) ∧ lnkB 11 false 285 (.ifCond .eq 11, 3, 296, 0, 0, 0) = true := by decide +kernel
theorem ck_109_293 : decode prog_13_method_32_code 293 = .ok (.invokevirtual 235, 3) ∧ lnkB 11 false 293 (.invokevirtual 235, 3, 105, 0, 0, 0) = true := by decide +kernel
theorem ck_109_299 : decode prog_13_method_32_code 299 = .ok (.goto (-36), 3) ∧ lnkB 11 false 299 (.goto (-36), 3, 263, 0, 0, 0) = true := by decide +kernel
theorem ck_109_305 : decode prog_13_method_32_code 305 = .ok (.goto (-161), 3) ∧ lnkB 11 false 305 (.goto (-161), 3, 144, 0, 0, 0) = true := by decide +kernel
theorem ck_109_308 : decode prog_13_method_32_code 308 = .ok (.return_, 1) ∧ lnkB 11 false 308 (.return_, 1, 0, 0, 0, 0) = true := by decide +kernel
abbrev RU_109 (d : Nat) (cp : Nat × Nat) (Post : Option Value → Sto → Prop) : PP := Runs (Ex d) prog_13_method_32_code 11 false 7 none none cp Post
theorem en_109 {d : Nat} {As : List Value} {S : Sto} {mc ms : Nat} {Post : Option Value → Sto → Prop} (hc : cats As ≤ 7) (h : RU_109 d (mc, ms) Post 0 (lv_args 0 As) [] S 0 0) : Ex (d + 1) 109 As S mc ms Post := ⟨by decide, hc, h⟩
def sg_110_0 : List RI := [(.iconst 0, 1, 0, 0, 0, 0), (.istore_n 3, 1, 0, 0, 0, 0), (.iconst 0, 1, 0, 0, 0, 0), (.istore 4, 2, 0, 0, 0, 0)]
theorem sk_110_0 : segB 11 false prog_13_method_6_code 0 sg_110_0 = true := by decide +kernel
def sg_110_5 : List RI := [(.iload 4, 2, 0, 0, 0, 0), (.aload_n 0, 1, 0, 0, 0, 0), (.getfield 166, 3, 11, 10, 0, 0)]
theorem sk_110_5 : segB 11 false prog_13_method_6_code 5 sg_110_5 = true := by decide +kernel
def sg_110_14 : List RI := [(.iload_n 3, 1, 0, 0, 0, 0)]
theorem sk_110_14 : segB 11 false prog_13_method_6_code 14 sg_110_14 = true := by decide +kernel
def sg_110_18 : List RI := [(.aload_n 0, 1, 0, 0, 0, 0), (.getfield 34, 3, 11, 11, 2, 0), (.iload 4, 2, 0, 0, 0, 0)]
theorem sk_110_18 : segB 11 false prog_13_method_6_code 18 sg_110_18 = true := by decide +kernel
def sg_110_25 : List RI := [(.iload_n 1, 1, 0, 0, 0, 0)]
theorem sk_110_25 : segB 11 false prog_13_method_6_code 25 sg_110_25 = true := by decide +kernel
def sg_110_29 : List RI := [(.iload_n 2, 1, 0, 0, 0, 0), (.aload_n 0, 1, 0, 0, 0, 0), (.getfield 37, 3, 11, 12, 2, 0), (.iload 4, 2, 0, 0, 0, 0)]
theorem sk_110_29 : segB 11 false prog_13_method_6_code 29 sg_110_29 = true := by decide +kernel
def sg_110_37 : List RI := [(.aload_n 0, 1, 0, 0, 0, 0), (.getfield 40, 3, 11, 13, 2, 0), (.iload 4, 2, 0, 0, 0, 0)]
theorem sk_110_37 : segB 11 false prog_13_method_6_code 37 sg_110_37 = true := by decide +kernel
def sg_110_50 : List RI := [(.iconst 1, 1, 0, 0, 0, 1)]
theorem sk_110_50 : segB 11 false prog_13_method_6_code 50 sg_110_50 = true := by decide +kernel
def sg_110_54 : List RI := [(.iconst 0, 1, 0, 0, 0, 0)]
theorem sk_110_54 : segB 11 false prog_13_method_6_code 54 sg_110_54 = true := by decide +kernel
def sg_110_55 : List RI := [(.istore_n 3, 1, 0, 0, 0, 0), (.iinc 4 1, 3, 0, 0, 0, 1)]
theorem sk_110_55 : segB 11 false prog_13_method_6_code 55 sg_110_55 = true := by decide +kernel
def sg_110_62 : List RI := [(.iload_n 3, 1, 0, 0, 0, 0)]
theorem sk_110_62 : segB 11 false prog_13_method_6_code 62 sg_110_62 = true := by decide +kernel
theorem ck_110_11 : decode prog_13_method_6_code 11 = .ok (.if_icmp .ge 51, 3) ∧ lnkB 11 false 11 (.if_icmp .ge 51, 3, 62, 0, 0, 0) = true := by decide +kernel
theorem ck_110_15 : decode prog_13_method_6_code 15 = .ok (.ifCond .ne 35, 3) ∧ lnkB 11 false 15 (.ifCond .ne 35, 3, 50, 0, 0, 0) = true := by decide +kernel
theorem ca_110_24 : decode prog_13_method_6_code 24 = .ok (.iaload, 1) ∧ lnkB 11 false 24 (.iaload, 1, 0, 0, 0, 0) = true := by decide +kernel
theorem ck_110_26 : decode prog_13_method_6_code 26 = .ok (.if_icmp .ne 28, 3) ∧ lnkB 11 false 26 (.if_icmp .ne 28, 3, 54, 0, 0, 0) = true := by decide +kernel
theorem ca_110_36 : decode prog_13_method_6_code 36 = .ok (.iaload, 1) ∧ lnkB 11 false 36 (.iaload, 1, 0, 0, 0, 0) = true := by decide +kernel
theorem ca_110_43 : decode prog_13_method_6_code 43 = .ok (.iaload, 1) ∧ lnkB 11 false 43 (.iaload, 1, 0, 0, 0, 0) = true := by decide +kernel
theorem ck_110_44 : decode prog_13_method_6_code 44 = .ok (.invokestatic 162, 3) ∧ lnkB 11 false 44 (.invokestatic 162, 3, 81, 0, 0, 0) = true := by decide +kernel
theorem ck_110_47 : decode prog_13_method_6_code 47 = .ok (.ifCond .eq 7, 3) ∧ lnkB 11 false 47 (.ifCond .eq 7, 3, 54, 0, 0, 0) = true := by decide +kernel
theorem ck_110_51 : decode prog_13_method_6_code 51 = .ok (.goto 4, 3) ∧ lnkB 11 false 51 (.goto 4, 3, 55, 0, 0, 0) = true := by decide +kernel
theorem ck_110_59 : decode prog_13_method_6_code 59 = .ok (.goto (-54), 3) ∧ lnkB 11 false 59 (.goto (-54), 3, 5, 0, 0, 0) = true := by decide +kernel
theorem ck_110_63 : decode prog_13_method_6_code 63 = .ok (.ireturn, 1) ∧ lnkB 11 false 63 (.ireturn, 1, 0, 0, 0, 0) = true := by decide +kernel
abbrev RU_110 (d : Nat) (cp : Nat × Nat) (Post : Option Value → Sto → Prop) : PP := Runs (Ex d) prog_13_method_6_code 11 false 5 (some .boolean) none cp Post
theorem en_110 {d : Nat} {As : List Value} {S : Sto} {mc ms : Nat} {Post : Option Value → Sto → Prop} (hc : cats As ≤ 5) (h : RU_110 d (mc, ms) Post 0 (lv_args 0 As) [] S 0 0) : Ex (d + 1) 110 As S mc ms Post := ⟨by decide, hc, h⟩
def sg_111_0 : List RI := [(.aload_n 0, 1, 0, 0, 0, 0), (.getfield 28, 3, 11, 8, 2, 0), (.iload_n 1, 1, 0, 0, 0, 0), (.aload_n 0, 1, 0, 0, 0, 0), (.getfield 176, 3, 11, 1, 0, 0), (.aload_n 0, 1, 0, 0, 0, 0), (.getfield 22, 3, 11, 6, 2, 0), (.iload_n 1, 1, 0, 0, 0, 0)]
theorem sk_111_0 : segB 11 false prog_13_method_31_code 0 sg_111_0 = true := by decide +kernel
def sg_111_15 : List RI := [(.iadd, 1, 0, 0, 0, 0)]
theorem sk_111_15 : segB 11 false prog_13_method_31_code 15 sg_111_15 = true := by decide +kernel
def sg_111_17 : List RI := [(.aload_n 0, 1, 0, 0, 0, 0), (.getfield 25, 3, 11, 7, 2, 0), (.iload_n 1, 1, 0, 0, 0, 0), (.iconst 0, 1, 0, 0, 0, 0)]
theorem sk_111_17 : segB 11 false prog_13_method_31_code 17 sg_111_17 = true := by decide +kernel
def sg_111_24 : List RI := [(.aload_n 0, 1, 0, 0, 0, 0), (.getfield 31, 3, 11, 9, 2, 0), (.iload_n 1, 1, 0, 0, 0, 0), (.iconst (-1), 1, 0, 0, 0, -1)]
theorem sk_111_24 : segB 11 false prog_13_method_31_code 24 sg_111_24 = true := by decide +kernel
theorem ca_111_14 : decode prog_13_method_31_code 14 = .ok (.iaload, 1) ∧ lnkB 11 false 14 (.iaload, 1, 0, 0, 0, 0) = true := by decide +kernel
theorem ca_111_16 : decode prog_13_method_31_code 16 = .ok (.iastore, 1) ∧ lnkB 11 false 16 (.iastore, 1, 0, 0, 0, 0) = true := by decide +kernel
theorem ca_111_23 : decode prog_13_method_31_code 23 = .ok (.iastore, 1) ∧ lnkB 11 false 23 (.iastore, 1, 0, 0, 0, 0) = true := by decide +kernel
theorem ca_111_30 : decode prog_13_method_31_code 30 = .ok (.iastore, 1) ∧ lnkB 11 false 30 (.iastore, 1, 0, 0, 0, 0) = true := by decide +kernel
theorem ck_111_31 : decode prog_13_method_31_code 31 = .ok (.return_, 1) ∧ lnkB 11 false 31 (.return_, 1, 0, 0, 0, 0) = true := by decide +kernel
abbrev RU_111 (d : Nat) (cp : Nat × Nat) (Post : Option Value → Sto → Prop) : PP := Runs (Ex d) prog_13_method_31_code 11 false 2 none none cp Post
theorem en_111 {d : Nat} {As : List Value} {S : Sto} {mc ms : Nat} {Post : Option Value → Sto → Prop} (hc : cats As ≤ 2) (h : RU_111 d (mc, ms) Post 0 (lv_args 0 As) [] S 0 0) : Ex (d + 1) 111 As S mc ms Post := ⟨by decide, hc, h⟩
def sg_112_0 : List RI := [(.aload_n 0, 1, 0, 0, 0, 0), (.getfield 28, 3, 11, 8, 2, 0), (.iload_n 1, 1, 0, 0, 0, 0)]
theorem sk_112_0 : segB 11 false prog_13_method_35_code 0 sg_112_0 = true := by decide +kernel
def sg_112_6 : List RI := [(.iconst (-1), 1, 0, 0, 0, -1)]
theorem sk_112_6 : segB 11 false prog_13_method_35_code 6 sg_112_6 = true := by decide +kernel
def sg_112_10 : List RI := [(.aload_n 0, 1, 0, 0, 0, 0), (.getfield 176, 3, 11, 1, 0, 0), (.aload_n 0, 1, 0, 0, 0, 0), (.getfield 28, 3, 11, 8, 2, 0), (.iload_n 1, 1, 0, 0, 0, 0)]
theorem sk_112_10 : segB 11 false prog_13_method_35_code 10 sg_112_10 = true := by decide +kernel
def sg_112_23 : List RI := [(.aload_n 0, 1, 0, 0, 0, 0), (.iload_n 1, 1, 0, 0, 0, 0)]
theorem sk_112_23 : segB 11 false prog_13_method_35_code 23 sg_112_23 = true := by decide +kernel
def sg_112_28 : List RI := [(.istore_n 2, 1, 0, 0, 0, 0)]
theorem sk_112_28 : segB 11 false prog_13_method_35_code 28 sg_112_28 = true := by decide +kernel
def sg_112_29 : List RI := [(.iload_n 2, 1, 0, 0, 0, 0), (.iconst (-1), 1, 0, 0, 0, -1)]
theorem sk_112_29 : segB 11 false prog_13_method_35_code 29 sg_112_29 = true := by decide +kernel
def sg_112_34 : List RI := [(.aload_n 0, 1, 0, 0, 0, 0), (.aload_n 0, 1, 0, 0, 0, 0), (.getfield 130, 3, 11, 48, 2, 0), (.iload_n 2, 1, 0, 0, 0, 0)]
theorem sk_112_34 : segB 11 false prog_13_method_35_code 34 sg_112_34 = true := by decide +kernel
def sg_112_41 : List RI := [(.iconst 4, 1, 0, 0, 0, 4)]
theorem sk_112_41 : segB 11 false prog_13_method_35_code 41 sg_112_41 = true := by decide +kernel
def sg_112_45 : List RI := [(.aload_n 0, 1, 0, 0, 0, 0), (.iload_n 1, 1, 0, 0, 0, 0)]
theorem sk_112_45 : segB 11 false prog_13_method_35_code 45 sg_112_45 = true := by decide +kernel
def sg_112_50 : List RI := [(.istore_n 2, 1, 0, 0, 0, 0)]
theorem sk_112_50 : segB 11 false prog_13_method_35_code 50 sg_112_50 = true := by decide +kernel
def sg_112_55 : List RI := [(.aload_n 0, 1, 0, 0, 0, 0), (.getfield 28, 3, 11, 8, 2, 0), (.iload_n 1, 1, 0, 0, 0, 0)]
theorem sk_112_55 : segB 11 false prog_13_method_35_code 55 sg_112_55 = true := by decide +kernel
def sg_112_61 : List RI := [(.iconst (-1), 1, 0, 0, 0, -1)]
theorem sk_112_61 : segB 11 false prog_13_method_35_code 61 sg_112_61 = true := by decide +kernel
def sg_112_65 : List RI := [(.aload_n 0, 1, 0, 0, 0, 0), (.getfield 16, 3, 11, 4, 2, 0), (.iload_n 1, 1, 0, 0, 0, 0)]
theorem sk_112_65 : segB 11 false prog_13_method_35_code 65 sg_112_65 = true := by decide +kernel
def sg_112_74 : List RI := [(.aload_n 0, 1, 0, 0, 0, 0), (.getfield 31, 3, 11, 9, 2, 0), (.iload_n 1, 1, 0, 0, 0, 0)]
theorem sk_112_74 : segB 11 false prog_13_method_35_code 74 sg_112_74 = true := by decide +kernel
def sg_112_80 : List RI := [(.iconst (-1), 1, 0, 0, 0, -1)]
theorem sk_112_80 : segB 11 false prog_13_method_35_code 80 sg_112_80 = true := by decide +kernel
def sg_112_84 : List RI := [(.iconst 1, 1, 0, 0, 0, 1)]
theorem sk_112_84 : segB 11 false prog_13_method_35_code 84 sg_112_84 = true := by decide +kernel
def sg_112_88 : List RI := [(.iconst 0, 1, 0, 0, 0, 0)]
theorem sk_112_88 : segB 11 false prog_13_method_35_code 88 sg_112_88 = true := by decide +kernel
def sg_112_89 : List RI := [(.istore_n 2, 1, 0, 0, 0, 0), (.aload_n 0, 1, 0, 0, 0, 0), (.iload_n 1, 1, 0, 0, 0, 0)]
theorem sk_112_89 : segB 11 false prog_13_method_35_code 89 sg_112_89 = true := by decide +kernel
def sg_112_95 : List RI := [(.istore_n 3, 1, 0, 0, 0, 0)]
theorem sk_112_95 : segB 11 false prog_13_method_35_code 95 sg_112_95 = true := by decide +kernel
def sg_112_96 : List RI := [(.iload_n 3, 1, 0, 0, 0, 0), (.iconst (-1), 1, 0, 0, 0, -1)]
theorem sk_112_96 : segB 11 false prog_13_method_35_code 96 sg_112_96 = true := by decide +kernel
def sg_112_101 : List RI := [(.iload_n 2, 1, 0, 0, 0, 0)]
theorem sk_112_101 : segB 11 false prog_13_method_35_code 101 sg_112_101 = true := by decide +kernel
def sg_112_105 : List RI := [(.aload_n 0, 1, 0, 0, 0, 0), (.getfield 28, 3, 11, 8, 2, 0), (.iload_n 1, 1, 0, 0, 0, 0)]
theorem sk_112_105 : segB 11 false prog_13_method_35_code 105 sg_112_105 = true := by decide +kernel
def sg_112_111 : List RI := [(.iconst (-1), 1, 0, 0, 0, -1)]
theorem sk_112_111 : segB 11 false prog_13_method_35_code 111 sg_112_111 = true := by decide +kernel
def sg_112_115 : List RI := [(.aload_n 0, 1, 0, 0, 0, 0), (.getfield 31, 3, 11, 9, 2, 0), (.iload_n 1, 1, 0, 0, 0, 0), (.aload_n 0, 1, 0, 0, 0, 0), (.getfield 254, 3, 11, 51, 0, 0)]
theorem sk_112_115 : segB 11 false prog_13_method_35_code 115 sg_112_115 = true := by decide +kernel
def sg_112_125 : List RI := [(.aload_n 0, 1, 0, 0, 0, 0), (.iload_n 1, 1, 0, 0, 0, 0), (.iload_n 3, 1, 0, 0, 0, 0)]
theorem sk_112_125 : segB 11 false prog_13_method_35_code 125 sg_112_125 = true := by decide +kernel
def sg_112_131 : List RI := [(.iinc 2 (-1), 3, 0, 0, 0, -1), (.aload_n 0, 1, 0, 0, 0, 0), (.iload_n 1, 1, 0, 0, 0, 0)]
theorem sk_112_131 : segB 11 false prog_13_method_35_code 131 sg_112_131 = true := by decide +kernel
def sg_112_139 : List RI := [(.istore_n 3, 1, 0, 0, 0, 0)]
theorem sk_112_139 : segB 11 false prog_13_method_35_code 139 sg_112_139 = true := by decide +kernel
theorem ca_112_5 : decode prog_13_method_35_code 5 = .ok (.iaload, 1) ∧ lnkB 11 false 5 (.iaload, 1, 0, 0, 0, 0) = true := by decide +kernel
theorem ck_112_7 : decode prog_13_method_35_code 7 = .ok (.if_icmp .eq 48, 3) ∧ lnkB 11 false 7 (.if_icmp .eq 48, 3, 55, 0, 0, 0) = true := by decide +kernel
theorem ca_112_19 : decode prog_13_method_35_code 19 = .ok (.iaload, 1) ∧ lnkB 11 false 19 (.iaload, 1, 0, 0, 0, 0) = true := by decide +kernel
theorem ck_112_20 : decode prog_13_method_35_code 20 = .ok (.if_icmp .ge 35, 3) ∧ lnkB 11 false 20 (.if_icmp .ge 35, 3, 55, 0, 0, 0) = true := by decide +kernel
theorem ck_112_25 : decode prog_13_method_35_code 25 = .ok (.invokevirtual 257, 3) ∧ lnkB 11 false 25 (.invokevirtual 257, 3, 113, 0, 0, 0) = true := by decide +kernel
theorem ck_112_31 : decode prog_13_method_35_code 31 = .ok (.if_icmp .eq 23, 3) ∧ lnkB 11 false 31 (.if_icmp .eq 23, 3, 54, 0, 0, 0) = true := by decide +kernel
theorem ca_112_40 : decode prog_13_method_35_code 40 = .ok (.iaload, 1) ∧ lnkB 11 false 40 (.iaload, 1, 0, 0, 0, 0) = true := by decide +kernel
theorem ck_112_42 : decode prog_13_method_35_code 42 = .ok (.invokevirtual 226, 3) ∧ lnkB 11 false 42 (.invokevirtual 226, 3, 104, 0, 0, 0) = true := by decide +kernel
theorem ck_112_47 : decode prog_13_method_35_code 47 = .ok (.invokevirtual 257, 3) ∧ lnkB 11 false 47 (.invokevirtual 257, 3, 113, 0, 0, 0) = true := by decide +kernel
theorem ck_112_51 : decode prog_13_method_35_code 51 = .ok (.goto (-22), 3) ∧ lnkB 11 false 51 (.goto (-22), 3, 29, 0, 0, 0) = true := by decide +kernel
theorem ck_112_54 : decode prog_13_method_35_code 54 = .ok (.return_, 1) ∧ lnkB 11 false 54 (.return_, 1, 0, 0, 0, 0) = true := by decide +kernel
theorem ca_112_60 : decode prog_13_method_35_code 60 = .ok (.iaload, 1) ∧ lnkB 11 false 60 (.iaload, 1, 0, 0, 0, 0) = true := by decide +kernel
theorem ck_112_62 : decode prog_13_method_35_code 62 = .ok (.if_icmp .ne 12, 3) ∧ lnkB 11 false 62 (.if_icmp .ne 12, 3, 74, 0, 0, 0) = true := by decide +kernel
theorem ca_112_70 : decode prog_13_method_35_code 70 = .ok (.iaload, 1) ∧ lnkB 11 false 70 (.iaload, 1, 0, 0, 0, 0) = true := by decide +kernel
theorem ck_112_71 : decode prog_13_method_35_code 71 = .ok (.goto 18, 3) ∧ lnkB 11 false 71 (.goto 18, 3, 89, 0, 0, 0) = true := by decide +kernel
theorem ca_112_79 : decode prog_13_method_35_code 79 = .ok (.iaload, 1) ∧ lnkB 11 false 79 (.iaload, 1, 0, 0, 0, 0) = true := by decide +kernel
theorem ck_112_81 : decode prog_13_method_35_code 81 = .ok (.if_icmp .ne 7, 3) ∧ lnkB 11 false 81 (.if_icmp .ne 7, 3, 88, 0, 0, 0) = true := by decide +kernel
theorem ck_112_85 : decode prog_13_method_35_code 85 = .ok (.goto 4, 3) ∧ lnkB 11 false 85 (.goto 4, 3, 89, 0, 0, 0) = true := by decide +kernel
theorem ck_112_92 : decode prog_13_method_35_code 92 = .ok (.invokevirtual 257, 3) ∧ lnkB 11 false 92 (.invokevirtual 257, 3, 113, 0, 0, 0) = true := by decide +kernel
theorem ck_112_98 : decode prog_13_method_35_code 98 = .ok (.if_icmp .eq 45, 3) ∧ lnkB 11 false 98 (.if_icmp .eq 45, 3, 143, 0, 0, 0) = true := by decide +kernel
theorem ck_112_102 : decode prog_13_method_35_code 102 = .ok (.ifCond .le 41, 3) ∧ lnkB 11 false 102 (.ifCond .le 41, 3, 143, 0, 0, 0) = true := by decide +kernel
theorem ca_112_110 : decode prog_13_method_35_code 110 = .ok (.iaload, 1) ∧ lnkB 11 false 110 (.iaload, 1, 0, 0, 0, 0) = true := by decide +kernel
theorem ck_112_112 : decode prog_13_method_35_code 112 = .ok (.if_icmp .eq 13, 3) ∧ lnkB 11 false 112 (.if_icmp .eq 13, 3, 125, 0, 0, 0) = true := by decide +kernel
theorem ca_112_124 : decode prog_13_method_35_code 124 = .ok (.iastore, 1) ∧ lnkB 11 false 124 (.iastore, 1, 0, 0, 0, 0) = true := by decide +kernel
theorem ck_112_128 : decode prog_13_method_35_code 128 = .ok (.invokevirtual 261, 3) ∧ lnkB 11 false 128 (.invokevirtual 261, 3, 114, 0, 0, 0) = true := by decide +kernel
theorem ck_112_136 : decode prog_13_method_35_code 136 = .ok (.invokevirtual 257, 3) ∧ lnkB 11 false 136 (.invokevirtual 257, 3, 113, 0, 0, 0) = true := by decide +kernel
theorem ck_112_140 : decode prog_13_method_35_code 140 = .ok (.goto (-44), 3) ∧ lnkB 11 false 140 (.goto (-44), 3, 96, 0, 0, 0) = true := by decide +kernel
theorem ck_112_143 : decode prog_13_method_35_code 143 = .ok (.return_, 1) ∧ lnkB 11 false 143 (.return_, 1, 0, 0, 0, 0) = true := by decide +kernel
abbrev RU_112 (d : Nat) (cp : Nat × Nat) (Post : Option Value → Sto → Prop) : PP := Runs (Ex d) prog_13_method_35_code 11 false 4 none none cp Post
theorem en_112 {d : Nat} {As : List Value} {S : Sto} {mc ms : Nat} {Post : Option Value → Sto → Prop} (hc : cats As ≤ 4) (h : RU_112 d (mc, ms) Post 0 (lv_args 0 As) [] S 0 0) : Ex (d + 1) 112 As S mc ms Post := ⟨by decide, hc, h⟩
def sg_113_0 : List RI := [(.iconst 0, 1, 0, 0, 0, 0), (.istore_n 2, 1, 0, 0, 0, 0)]
theorem sk_113_0 : segB 11 false prog_13_method_33_code 0 sg_113_0 = true := by decide +kernel
def sg_113_2 : List RI := [(.iload_n 2, 1, 0, 0, 0, 0), (.aload_n 0, 1, 0, 0, 0, 0), (.getfield 229, 3, 11, 47, 0, 0)]
theorem sk_113_2 : segB 11 false prog_13_method_33_code 2 sg_113_2 = true := by decide +kernel
def sg_113_10 : List RI := [(.aload_n 0, 1, 0, 0, 0, 0), (.getfield 121, 3, 11, 44, 2, 0), (.aload_n 0, 1, 0, 0, 0, 0), (.getfield 130, 3, 11, 48, 2, 0), (.iload_n 2, 1, 0, 0, 0, 0)]
theorem sk_113_10 : segB 11 false prog_13_method_33_code 10 sg_113_10 = true := by decide +kernel
def sg_113_21 : List RI := [(.iconst 1, 1, 0, 0, 0, 1)]
theorem sk_113_21 : segB 11 false prog_13_method_33_code 21 sg_113_21 = true := by decide +kernel
def sg_113_25 : List RI := [(.aload_n 0, 1, 0, 0, 0, 0), (.getfield 43, 3, 11, 14, 2, 0), (.aload_n 0, 1, 0, 0, 0, 0), (.getfield 130, 3, 11, 48, 2, 0), (.iload_n 2, 1, 0, 0, 0, 0)]
theorem sk_113_25 : segB 11 false prog_13_method_33_code 25 sg_113_25 = true := by decide +kernel
def sg_113_35 : List RI := [(.bipush 32, 2, 0, 0, 0, 32), (.idiv, 1, 0, 0, 0, 0)]
theorem sk_113_35 : segB 11 false prog_13_method_33_code 35 sg_113_35 = true := by decide +kernel
def sg_113_39 : List RI := [(.iload_n 1, 1, 0, 0, 0, 0)]
theorem sk_113_39 : segB 11 false prog_13_method_33_code 39 sg_113_39 = true := by decide +kernel
def sg_113_43 : List RI := [(.iload_n 2, 1, 0, 0, 0, 0)]
theorem sk_113_43 : segB 11 false prog_13_method_33_code 43 sg_113_43 = true := by decide +kernel
def sg_113_45 : List RI := [(.iinc 2 1, 3, 0, 0, 0, 1)]
theorem sk_113_45 : segB 11 false prog_13_method_33_code 45 sg_113_45 = true := by decide +kernel
def sg_113_51 : List RI := [(.iconst (-1), 1, 0, 0, 0, -1)]
theorem sk_113_51 : segB 11 false prog_13_method_33_code 51 sg_113_51 = true := by decide +kernel
theorem ck_113_7 : decode prog_13_method_33_code 7 = .ok (.if_icmp .ge 44, 3) ∧ lnkB 11 false 7 (.if_icmp .ge 44, 3, 51, 0, 0, 0) = true := by decide +kernel
theorem ca_113_19 : decode prog_13_method_33_code 19 = .ok (.iaload, 1) ∧ lnkB 11 false 19 (.iaload, 1, 0, 0, 0, 0) = true := by decide +kernel
theorem ca_113_20 : decode prog_13_method_33_code 20 = .ok (.iaload, 1) ∧ lnkB 11 false 20 (.iaload, 1, 0, 0, 0, 0) = true := by decide +kernel
theorem ck_113_22 : decode prog_13_method_33_code 22 = .ok (.if_icmp .ne 23, 3) ∧ lnkB 11 false 22 (.if_icmp .ne 23, 3, 45, 0, 0, 0) = true := by decide +kernel
theorem ca_113_34 : decode prog_13_method_33_code 34 = .ok (.iaload, 1) ∧ lnkB 11 false 34 (.iaload, 1, 0, 0, 0, 0) = true := by decide +kernel
theorem ca_113_38 : decode prog_13_method_33_code 38 = .ok (.iaload, 1) ∧ lnkB 11 false 38 (.iaload, 1, 0, 0, 0, 0) = true := by decide +kernel
theorem ck_113_40 : decode prog_13_method_33_code 40 = .ok (.if_icmp .ne 5, 3) ∧ lnkB 11 false 40 (.if_icmp .ne 5, 3, 45, 0, 0, 0) = true := by decide +kernel
theorem ck_113_44 : decode prog_13_method_33_code 44 = .ok (.ireturn, 1) ∧ lnkB 11 false 44 (.ireturn, 1, 0, 0, 0, 0) = true := by decide +kernel
theorem ck_113_48 : decode prog_13_method_33_code 48 = .ok (.goto (-46), 3) ∧ lnkB 11 false 48 (.goto (-46), 3, 2, 0, 0, 0) = true := by decide +kernel
theorem ck_113_52 : decode prog_13_method_33_code 52 = .ok (.ireturn, 1) ∧ lnkB 11 false 52 (.ireturn, 1, 0, 0, 0, 0) = true := by decide +kernel
abbrev RU_113 (d : Nat) (cp : Nat × Nat) (Post : Option Value → Sto → Prop) : PP := Runs (Ex d) prog_13_method_33_code 11 false 3 (some .int) none cp Post
theorem en_113 {d : Nat} {As : List Value} {S : Sto} {mc ms : Nat} {Post : Option Value → Sto → Prop} (hc : cats As ≤ 3) (h : RU_113 d (mc, ms) Post 0 (lv_args 0 As) [] S 0 0) : Ex (d + 1) 113 As S mc ms Post := ⟨by decide, hc, h⟩
def sg_114_0 : List RI := [(.aload_n 0, 1, 0, 0, 0, 0), (.getfield 254, 3, 11, 51, 0, 0), (.istore_n 3, 1, 0, 0, 0, 0), (.aload_n 0, 1, 0, 0, 0, 0), (.dup, 1, 0, 0, 0, 0), (.getfield 254, 3, 11, 51, 0, 0), (.iconst 1, 1, 0, 0, 0, 1), (.iadd, 1, 0, 0, 0, 0), (.putfield 254, 3, 11, 51, 0, 0), (.aload_n 0, 1, 0, 0, 0, 0), (.getfield 133, 3, 11, 52, 2, 0), (.iload_n 3, 1, 0, 0, 0, 0), (.iload_n 1, 1, 0, 0, 0, 0)]
theorem sk_114_0 : segB 11 false prog_13_method_34_code 0 sg_114_0 = true := by decide +kernel
def sg_114_22 : List RI := [(.aload_n 0, 1, 0, 0, 0, 0), (.getfield 136, 3, 11, 53, 2, 0), (.iload_n 3, 1, 0, 0, 0, 0), (.aload_n 0, 1, 0, 0, 0, 0), (.getfield 130, 3, 11, 48, 2, 0), (.iload_n 2, 1, 0, 0, 0, 0)]
theorem sk_114_22 : segB 11 false prog_13_method_34_code 22 sg_114_22 = true := by decide +kernel
def sg_114_33 : List RI := [(.bipush 32, 2, 0, 0, 0, 32), (.idiv, 1, 0, 0, 0, 0)]
theorem sk_114_33 : segB 11 false prog_13_method_34_code 33 sg_114_33 = true := by decide +kernel
def sg_114_37 : List RI := [(.aload_n 0, 1, 0, 0, 0, 0), (.getfield 139, 3, 11, 54, 2, 0), (.iload_n 3, 1, 0, 0, 0, 0), (.aload_n 0, 1, 0, 0, 0, 0), (.getfield 176, 3, 11, 1, 0, 0)]
theorem sk_114_37 : segB 11 false prog_13_method_34_code 37 sg_114_37 = true := by decide +kernel
def sg_114_47 : List RI := [(.aload_n 0, 1, 0, 0, 0, 0), (.getfield 142, 3, 11, 55, 2, 0), (.iload_n 3, 1, 0, 0, 0, 0), (.iconst 0, 1, 0, 0, 0, 0)]
theorem sk_114_47 : segB 11 false prog_13_method_34_code 47 sg_114_47 = true := by decide +kernel
def sg_114_54 : List RI := [(.aload_n 0, 1, 0, 0, 0, 0), (.getfield 145, 3, 11, 56, 2, 0), (.iload_n 3, 1, 0, 0, 0, 0), (.iconst 3, 1, 0, 0, 0, 3)]
theorem sk_114_54 : segB 11 false prog_13_method_34_code 54 sg_114_54 = true := by decide +kernel
def sg_114_61 : List RI := [(.iload_n 2, 1, 0, 0, 0, 0), (.istore 4, 2, 0, 0, 0, 0)]
theorem sk_114_61 : segB 11 false prog_13_method_34_code 61 sg_114_61 = true := by decide +kernel
def sg_114_64 : List RI := [(.iload 4, 2, 0, 0, 0, 0), (.aload_n 0, 1, 0, 0, 0, 0), (.getfield 229, 3, 11, 47, 0, 0)]
theorem sk_114_64 : segB 11 false prog_13_method_34_code 64 sg_114_64 = true := by decide +kernel
def sg_114_73 : List RI := [(.aload_n 0, 1, 0, 0, 0, 0), (.getfield 142, 3, 11, 55, 2, 0), (.iload_n 3, 1, 0, 0, 0, 0)]
theorem sk_114_73 : segB 11 false prog_13_method_34_code 73 sg_114_73 = true := by decide +kernel
def sg_114_79 : List RI := [(.aload_n 0, 1, 0, 0, 0, 0), (.getfield 13, 3, 11, 3, 2, 0), (.iload_n 1, 1, 0, 0, 0, 0)]
theorem sk_114_79 : segB 11 false prog_13_method_34_code 79 sg_114_79 = true := by decide +kernel
def sg_114_88 : List RI := [(.aload_n 0, 1, 0, 0, 0, 0), (.getfield 130, 3, 11, 48, 2, 0), (.iload 4, 2, 0, 0, 0, 0)]
theorem sk_114_88 : segB 11 false prog_13_method_34_code 88 sg_114_88 = true := by decide +kernel
def sg_114_95 : List RI := [(.istore 5, 2, 0, 0, 0, 0), (.aload_n 0, 1, 0, 0, 0, 0), (.getfield 121, 3, 11, 44, 2, 0), (.iload 5, 2, 0, 0, 0, 0)]
theorem sk_114_95 : segB 11 false prog_13_method_34_code 95 sg_114_95 = true := by decide +kernel
def sg_114_104 : List RI := [(.iconst 1, 1, 0, 0, 0, 1)]
theorem sk_114_104 : segB 11 false prog_13_method_34_code 104 sg_114_104 = true := by decide +kernel
def sg_114_108 : List RI := [(.iload 5, 2, 0, 0, 0, 0), (.bipush 32, 2, 0, 0, 0, 32), (.idiv, 1, 0, 0, 0, 0), (.aload_n 0, 1, 0, 0, 0, 0), (.getfield 136, 3, 11, 53, 2, 0), (.iload_n 3, 1, 0, 0, 0, 0)]
theorem sk_114_108 : segB 11 false prog_13_method_34_code 108 sg_114_108 = true := by decide +kernel
def sg_114_122 : List RI := [(.aload_n 0, 1, 0, 0, 0, 0), (.getfield 148, 3, 11, 57, 2, 0), (.bipush 8, 2, 0, 0, 0, 8), (.iload_n 3, 1, 0, 0, 0, 0), (.imul, 1, 0, 0, 0, 0), (.aload_n 0, 1, 0, 0, 0, 0), (.getfield 142, 3, 11, 55, 2, 0), (.iload_n 3, 1, 0, 0, 0, 0)]
theorem sk_114_122 : segB 11 false prog_13_method_34_code 122 sg_114_122 = true := by decide +kernel
def sg_114_136 : List RI := [(.iadd, 1, 0, 0, 0, 0), (.iload 5, 2, 0, 0, 0, 0), (.bipush 32, 2, 0, 0, 0, 32), (.irem, 1, 0, 0, 0, 0)]
theorem sk_114_136 : segB 11 false prog_13_method_34_code 136 sg_114_136 = true := by decide +kernel
def sg_114_143 : List RI := [(.aload_n 0, 1, 0, 0, 0, 0), (.getfield 142, 3, 11, 55, 2, 0), (.iload_n 3, 1, 0, 0, 0, 0), (.dup2, 1, 0, 0, 0, 0)]
theorem sk_114_143 : segB 11 false prog_13_method_34_code 143 sg_114_143 = true := by decide +kernel
def sg_114_150 : List RI := [(.iconst 1, 1, 0, 0, 0, 1), (.iadd, 1, 0, 0, 0, 0)]
theorem sk_114_150 : segB 11 false prog_13_method_34_code 150 sg_114_150 = true := by decide +kernel
def sg_114_153 : List RI := [(.aload_n 0, 1, 0, 0, 0, 0), (.getfield 121, 3, 11, 44, 2, 0), (.iload 5, 2, 0, 0, 0, 0), (.iconst 2, 1, 0, 0, 0, 2)]
theorem sk_114_153 : segB 11 false prog_13_method_34_code 153 sg_114_153 = true := by decide +kernel
def sg_114_161 : List RI := [(.iinc 4 1, 3, 0, 0, 0, 1)]
theorem sk_114_161 : segB 11 false prog_13_method_34_code 161 sg_114_161 = true := by decide +kernel
theorem ca_114_21 : decode prog_13_method_34_code 21 = .ok (.iastore, 1) ∧ lnkB 11 false 21 (.iastore, 1, 0, 0, 0, 0) = true := by decide +kernel
theorem ca_114_32 : decode prog_13_method_34_code 32 = .ok (.iaload, 1) ∧ lnkB 11 false 32 (.iaload, 1, 0, 0, 0, 0) = true := by decide +kernel
theorem ca_114_36 : decode prog_13_method_34_code 36 = .ok (.iastore, 1) ∧ lnkB 11 false 36 (.iastore, 1, 0, 0, 0, 0) = true := by decide +kernel
theorem ca_114_46 : decode prog_13_method_34_code 46 = .ok (.iastore, 1) ∧ lnkB 11 false 46 (.iastore, 1, 0, 0, 0, 0) = true := by decide +kernel
theorem ca_114_53 : decode prog_13_method_34_code 53 = .ok (.iastore, 1) ∧ lnkB 11 false 53 (.iastore, 1, 0, 0, 0, 0) = true := by decide +kernel
theorem ca_114_60 : decode prog_13_method_34_code 60 = .ok (.iastore, 1) ∧ lnkB 11 false 60 (.iastore, 1, 0, 0, 0, 0) = true := by decide +kernel
theorem ck_114_70 : decode prog_13_method_34_code 70 = .ok (.if_icmp .ge 97, 3) ∧ lnkB 11 false 70 (.if_icmp .ge 97, 3, 167, 0, 0, 0) = true := by decide +kernel
theorem ca_114_78 : decode prog_13_method_34_code 78 = .ok (.iaload, 1) ∧ lnkB 11 false 78 (.iaload, 1, 0, 0, 0, 0) = true := by decide +kernel
theorem ca_114_84 : decode prog_13_method_34_code 84 = .ok (.iaload, 1) ∧ lnkB 11 false 84 (.iaload, 1, 0, 0, 0, 0) = true := by decide +kernel
theorem ck_114_85 : decode prog_13_method_34_code 85 = .ok (.if_icmp .ge 82, 3) ∧ lnkB 11 false 85 (.if_icmp .ge 82, 3, 167, 0, 0, 0) = true := by decide +kernel
theorem ca_114_94 : decode prog_13_method_34_code 94 = .ok (.iaload, 1) ∧ lnkB 11 false 94 (.iaload, 1, 0, 0, 0, 0) = true := by decide +kernel
theorem ca_114_103 : decode prog_13_method_34_code 103 = .ok (.iaload, 1) ∧ lnkB 11 false 103 (.iaload, 1, 0, 0, 0, 0) = true := by decide +kernel
theorem ck_114_105 : decode prog_13_method_34_code 105 = .ok (.if_icmp .ne 56, 3) ∧ lnkB 11 false 105 (.if_icmp .ne 56, 3, 161, 0, 0, 0) = true := by decide +kernel
theorem ca_114_118 : decode prog_13_method_34_code 118 = .ok (.iaload, 1) ∧ lnkB 11 false 118 (.iaload, 1, 0, 0, 0, 0) = true := by decide +kernel
theorem ck_114_119 : decode prog_13_method_34_code 119 = .ok (.if_icmp .ne 42, 3) ∧ lnkB 11 false 119 (.if_icmp .ne 42, 3, 161, 0, 0, 0) = true := by decide +kernel
theorem ca_114_135 : decode prog_13_method_34_code 135 = .ok (.iaload, 1) ∧ lnkB 11 false 135 (.iaload, 1, 0, 0, 0, 0) = true := by decide +kernel
theorem ca_114_142 : decode prog_13_method_34_code 142 = .ok (.iastore, 1) ∧ lnkB 11 false 142 (.iastore, 1, 0, 0, 0, 0) = true := by decide +kernel
theorem ca_114_149 : decode prog_13_method_34_code 149 = .ok (.iaload, 1) ∧ lnkB 11 false 149 (.iaload, 1, 0, 0, 0, 0) = true := by decide +kernel
theorem ca_114_152 : decode prog_13_method_34_code 152 = .ok (.iastore, 1) ∧ lnkB 11 false 152 (.iastore, 1, 0, 0, 0, 0) = true := by decide +kernel
theorem ca_114_160 : decode prog_13_method_34_code 160 = .ok (.iastore, 1) ∧ lnkB 11 false 160 (.iastore, 1, 0, 0, 0, 0) = true := by decide +kernel
theorem ck_114_164 : decode prog_13_method_34_code 164 = .ok (.goto (-100), 3) ∧ lnkB 11 false 164 (.goto (-100), 3, 64, 0, 0, 0) = true := by decide +kernel
theorem ck_114_167 : decode prog_13_method_34_code 167 = .ok (.return_, 1) ∧ lnkB 11 false 167 (.return_, 1, 0, 0, 0, 0) = true := by decide +kernel
abbrev RU_114 (d : Nat) (cp : Nat × Nat) (Post : Option Value → Sto → Prop) : PP := Runs (Ex d) prog_13_method_34_code 11 false 6 none none cp Post
theorem en_114 {d : Nat} {As : List Value} {S : Sto} {mc ms : Nat} {Post : Option Value → Sto → Prop} (hc : cats As ≤ 6) (h : RU_114 d (mc, ms) Post 0 (lv_args 0 As) [] S 0 0) : Ex (d + 1) 114 As S mc ms Post := ⟨by decide, hc, h⟩
def sg_115_0 : List RI := [(.iconst 0, 1, 0, 0, 0, 0), (.istore_n 1, 1, 0, 0, 0, 0)]
theorem sk_115_0 : segB 11 false prog_13_method_38_code 0 sg_115_0 = true := by decide +kernel
def sg_115_2 : List RI := [(.iload_n 1, 1, 0, 0, 0, 0), (.aload_n 0, 1, 0, 0, 0, 0), (.getfield 254, 3, 11, 51, 0, 0)]
theorem sk_115_2 : segB 11 false prog_13_method_38_code 2 sg_115_2 = true := by decide +kernel
def sg_115_10 : List RI := [(.aload_n 0, 1, 0, 0, 0, 0), (.getfield 145, 3, 11, 56, 2, 0), (.iload_n 1, 1, 0, 0, 0, 0)]
theorem sk_115_10 : segB 11 false prog_13_method_38_code 10 sg_115_10 = true := by decide +kernel
def sg_115_16 : List RI := [(.iconst 3, 1, 0, 0, 0, 3)]
theorem sk_115_16 : segB 11 false prog_13_method_38_code 16 sg_115_16 = true := by decide +kernel
def sg_115_20 : List RI := [(.aload_n 0, 1, 0, 0, 0, 0), (.getfield 145, 3, 11, 56, 2, 0), (.iload_n 1, 1, 0, 0, 0, 0), (.iconst 2, 1, 0, 0, 0, 2)]
theorem sk_115_20 : segB 11 false prog_13_method_38_code 20 sg_115_20 = true := by decide +kernel
def sg_115_27 : List RI := [(.aload_n 0, 1, 0, 0, 0, 0), (.getfield 31, 3, 11, 9, 2, 0), (.aload_n 0, 1, 0, 0, 0, 0), (.getfield 133, 3, 11, 52, 2, 0), (.iload_n 1, 1, 0, 0, 0, 0)]
theorem sk_115_27 : segB 11 false prog_13_method_38_code 27 sg_115_27 = true := by decide +kernel
def sg_115_38 : List RI := [(.iload_n 1, 1, 0, 0, 0, 0)]
theorem sk_115_38 : segB 11 false prog_13_method_38_code 38 sg_115_38 = true := by decide +kernel
def sg_115_42 : List RI := [(.aload_n 0, 1, 0, 0, 0, 0), (.aload_n 0, 1, 0, 0, 0, 0), (.getfield 133, 3, 11, 52, 2, 0), (.iload_n 1, 1, 0, 0, 0, 0)]
theorem sk_115_42 : segB 11 false prog_13_method_38_code 42 sg_115_42 = true := by decide +kernel
def sg_115_52 : List RI := [(.iinc 1 1, 3, 0, 0, 0, 1)]
theorem sk_115_52 : segB 11 false prog_13_method_38_code 52 sg_115_52 = true := by decide +kernel
def sg_115_58 : List RI := [(.iconst 0, 1, 0, 0, 0, 0), (.istore_n 1, 1, 0, 0, 0, 0)]
theorem sk_115_58 : segB 11 false prog_13_method_38_code 58 sg_115_58 = true := by decide +kernel
def sg_115_60 : List RI := [(.iload_n 1, 1, 0, 0, 0, 0), (.aload_n 0, 1, 0, 0, 0, 0), (.getfield 229, 3, 11, 47, 0, 0)]
theorem sk_115_60 : segB 11 false prog_13_method_38_code 60 sg_115_60 = true := by decide +kernel
def sg_115_68 : List RI := [(.aload_n 0, 1, 0, 0, 0, 0), (.getfield 121, 3, 11, 44, 2, 0), (.aload_n 0, 1, 0, 0, 0, 0), (.getfield 130, 3, 11, 48, 2, 0), (.iload_n 1, 1, 0, 0, 0, 0)]
theorem sk_115_68 : segB 11 false prog_13_method_38_code 68 sg_115_68 = true := by decide +kernel
def sg_115_79 : List RI := [(.iconst 1, 1, 0, 0, 0, 1)]
theorem sk_115_79 : segB 11 false prog_13_method_38_code 79 sg_115_79 = true := by decide +kernel
def sg_115_83 : List RI := [(.aload_n 0, 1, 0, 0, 0, 0), (.getfield 121, 3, 11, 44, 2, 0), (.aload_n 0, 1, 0, 0, 0, 0), (.getfield 130, 3, 11, 48, 2, 0), (.iload_n 1, 1, 0, 0, 0, 0)]
theorem sk_115_83 : segB 11 false prog_13_method_38_code 83 sg_115_83 = true := by decide +kernel
def sg_115_94 : List RI := [(.iconst 2, 1, 0, 0, 0, 2)]
theorem sk_115_94 : segB 11 false prog_13_method_38_code 94 sg_115_94 = true := by decide +kernel
def sg_115_98 : List RI := [(.aload_n 0, 1, 0, 0, 0, 0), (.aload_n 0, 1, 0, 0, 0, 0), (.getfield 130, 3, 11, 48, 2, 0), (.iload_n 1, 1, 0, 0, 0, 0)]
theorem sk_115_98 : segB 11 false prog_13_method_38_code 98 sg_115_98 = true := by decide +kernel
def sg_115_105 : List RI := [(.iconst 5, 1, 0, 0, 0, 5)]
theorem sk_115_105 : segB 11 false prog_13_method_38_code 105 sg_115_105 = true := by decide +kernel
def sg_115_109 : List RI := [(.iinc 1 1, 3, 0, 0, 0, 1)]
theorem sk_115_109 : segB 11 false prog_13_method_38_code 109 sg_115_109 = true := by decide +kernel
theorem ck_115_7 : decode prog_13_method_38_code 7 = .ok (.if_icmp .ge 51, 3) ∧ lnkB 11 false 7 (.if_icmp .ge 51, 3, 58, 0, 0, 0) = true := by decide +kernel
theorem ca_115_15 : decode prog_13_method_38_code 15 = .ok (.iaload, 1) ∧ lnkB 11 false 15 (.iaload, 1, 0, 0, 0, 0) = true := by decide +kernel
theorem ck_115_17 : decode prog_13_method_38_code 17 = .ok (.if_icmp .ne 35, 3) ∧ lnkB 11 false 17 (.if_icmp .ne 35, 3, 52, 0, 0, 0) = true := by decide +kernel
theorem ca_115_26 : decode prog_13_method_38_code 26 = .ok (.iastore, 1) ∧ lnkB 11 false 26 (.iastore, 1, 0, 0, 0, 0) = true := by decide +kernel
theorem ca_115_36 : decode prog_13_method_38_code 36 = .ok (.iaload, 1) ∧ lnkB 11 false 36 (.iaload, 1, 0, 0, 0, 0) = true := by decide +kernel
theorem ca_115_37 : decode prog_13_method_38_code 37 = .ok (.iaload, 1) ∧ lnkB 11 false 37 (.iaload, 1, 0, 0, 0, 0) = true := by decide +kernel
theorem ck_115_39 : decode prog_13_method_38_code 39 = .ok (.if_icmp .ne 13, 3) ∧ lnkB 11 false 39 (.if_icmp .ne 13, 3, 52, 0, 0, 0) = true := by decide +kernel
theorem ca_115_48 : decode prog_13_method_38_code 48 = .ok (.iaload, 1) ∧ lnkB 11 false 48 (.iaload, 1, 0, 0, 0, 0) = true := by decide +kernel
theorem ck_115_49 : decode prog_13_method_38_code 49 = .ok (.invokevirtual 251, 3) ∧ lnkB 11 false 49 (.invokevirtual 251, 3, 111, 0, 0, 0) = true := by decide +kernel
theorem ck_115_55 : decode prog_13_method_38_code 55 = .ok (.goto (-53), 3) ∧ lnkB 11 false 55 (.goto (-53), 3, 2, 0, 0, 0) = true := by decide +kernel
theorem ck_115_65 : decode prog_13_method_38_code 65 = .ok (.if_icmp .ge 50, 3) ∧ lnkB 11 false 65 (.if_icmp .ge 50, 3, 115, 0, 0, 0) = true := by decide +kernel
theorem ca_115_77 : decode prog_13_method_38_code 77 = .ok (.iaload, 1) ∧ lnkB 11 false 77 (.iaload, 1, 0, 0, 0, 0) = true := by decide +kernel
theorem ca_115_78 : decode prog_13_method_38_code 78 = .ok (.iaload, 1) ∧ lnkB 11 false 78 (.iaload, 1, 0, 0, 0, 0) = true := by decide +kernel
theorem ck_115_80 : decode prog_13_method_38_code 80 = .ok (.if_icmp .eq 18, 3) ∧ lnkB 11 false 80 (.if_icmp .eq 18, 3, 98, 0, 0, 0) = true := by decide +kernel
theorem ca_115_92 : decode prog_13_method_38_code 92 = .ok (.iaload, 1) ∧ lnkB 11 false 92 (.iaload, 1, 0, 0, 0, 0) = true := by decide +kernel
theorem ca_115_93 : decode prog_13_method_38_code 93 = .ok (.iaload, 1) ∧ lnkB 11 false 93 (.iaload, 1, 0, 0, 0, 0) = true := by decide +kernel
theorem ck_115_95 : decode prog_13_method_38_code 95 = .ok (.if_icmp .ne 14, 3) ∧ lnkB 11 false 95 (.if_icmp .ne 14, 3, 109, 0, 0, 0) = true := by decide +kernel
theorem ca_115_104 : decode prog_13_method_38_code 104 = .ok (.iaload, 1) ∧ lnkB 11 false 104 (.iaload, 1, 0, 0, 0, 0) = true := by decide +kernel
theorem ck_115_106 : decode prog_13_method_38_code 106 = .ok (.invokevirtual 226, 3) ∧ lnkB 11 false 106 (.invokevirtual 226, 3, 104, 0, 0, 0) = true := by decide +kernel
theorem ck_115_112 : decode prog_13_method_38_code 112 = .ok (.goto (-52), 3) ∧ lnkB 11 false 112 (.goto (-52), 3, 60, 0, 0, 0) = true := by decide +kernel
theorem ck_115_115 : decode prog_13_method_38_code 115 = .ok (.return_, 1) ∧ lnkB 11 false 115 (.return_, 1, 0, 0, 0, 0) = true := by decide +kernel
abbrev RU_115 (d : Nat) (cp : Nat × Nat) (Post : Option Value → Sto → Prop) : PP := Runs (Ex d) prog_13_method_38_code 11 false 2 none none cp Post
theorem en_115 {d : Nat} {As : List Value} {S : Sto} {mc ms : Nat} {Post : Option Value → Sto → Prop} (hc : cats As ≤ 2) (h : RU_115 d (mc, ms) Post 0 (lv_args 0 As) [] S 0 0) : Ex (d + 1) 115 As S mc ms Post := ⟨by decide, hc, h⟩
def sg_116_0 : List RI := [(.iconst 1, 1, 0, 0, 0, 1), (.istore_n 1, 1, 0, 0, 0, 0), (.iconst 0, 1, 0, 0, 0, 0), (.istore_n 2, 1, 0, 0, 0, 0)]
theorem sk_116_0 : segB 11 false prog_13_method_36_code 0 sg_116_0 = true := by decide +kernel
def sg_116_4 : List RI := [(.iload_n 2, 1, 0, 0, 0, 0), (.aload_n 0, 1, 0, 0, 0, 0), (.getfield 254, 3, 11, 51, 0, 0)]
theorem sk_116_4 : segB 11 false prog_13_method_36_code 4 sg_116_4 = true := by decide +kernel
def sg_116_12 : List RI := [(.iload_n 1, 1, 0, 0, 0, 0)]
theorem sk_116_12 : segB 11 false prog_13_method_36_code 12 sg_116_12 = true := by decide +kernel
def sg_116_16 : List RI := [(.aload_n 0, 1, 0, 0, 0, 0), (.getfield 145, 3, 11, 56, 2, 0), (.iload_n 2, 1, 0, 0, 0, 0)]
theorem sk_116_16 : segB 11 false prog_13_method_36_code 16 sg_116_16 = true := by decide +kernel
def sg_116_22 : List RI := [(.iconst 3, 1, 0, 0, 0, 3)]
theorem sk_116_22 : segB 11 false prog_13_method_36_code 22 sg_116_22 = true := by decide +kernel
def sg_116_26 : List RI := [(.iconst 1, 1, 0, 0, 0, 1)]
theorem sk_116_26 : segB 11 false prog_13_method_36_code 26 sg_116_26 = true := by decide +kernel
def sg_116_30 : List RI := [(.iconst 0, 1, 0, 0, 0, 0)]
theorem sk_116_30 : segB 11 false prog_13_method_36_code 30 sg_116_30 = true := by decide +kernel
def sg_116_31 : List RI := [(.istore_n 1, 1, 0, 0, 0, 0), (.iinc 2 1, 3, 0, 0, 0, 1)]
theorem sk_116_31 : segB 11 false prog_13_method_36_code 31 sg_116_31 = true := by decide +kernel
def sg_116_38 : List RI := [(.iconst 0, 1, 0, 0, 0, 0), (.istore_n 2, 1, 0, 0, 0, 0)]
theorem sk_116_38 : segB 11 false prog_13_method_36_code 38 sg_116_38 = true := by decide +kernel
def sg_116_40 : List RI := [(.iload_n 2, 1, 0, 0, 0, 0), (.aload_n 0, 1, 0, 0, 0, 0), (.getfield 229, 3, 11, 47, 0, 0)]
theorem sk_116_40 : segB 11 false prog_13_method_36_code 40 sg_116_40 = true := by decide +kernel
def sg_116_48 : List RI := [(.iload_n 1, 1, 0, 0, 0, 0)]
theorem sk_116_48 : segB 11 false prog_13_method_36_code 48 sg_116_48 = true := by decide +kernel
def sg_116_52 : List RI := [(.aload_n 0, 1, 0, 0, 0, 0), (.getfield 121, 3, 11, 44, 2, 0), (.aload_n 0, 1, 0, 0, 0, 0), (.getfield 130, 3, 11, 48, 2, 0), (.iload_n 2, 1, 0, 0, 0, 0)]
theorem sk_116_52 : segB 11 false prog_13_method_36_code 52 sg_116_52 = true := by decide +kernel
def sg_116_63 : List RI := [(.iconst 1, 1, 0, 0, 0, 1)]
theorem sk_116_63 : segB 11 false prog_13_method_36_code 63 sg_116_63 = true := by decide +kernel
def sg_116_67 : List RI := [(.iconst 1, 1, 0, 0, 0, 1)]
theorem sk_116_67 : segB 11 false prog_13_method_36_code 67 sg_116_67 = true := by decide +kernel
def sg_116_71 : List RI := [(.iconst 0, 1, 0, 0, 0, 0)]
theorem sk_116_71 : segB 11 false prog_13_method_36_code 71 sg_116_71 = true := by decide +kernel
def sg_116_72 : List RI := [(.istore_n 1, 1, 0, 0, 0, 0), (.iinc 2 1, 3, 0, 0, 0, 1)]
theorem sk_116_72 : segB 11 false prog_13_method_36_code 72 sg_116_72 = true := by decide +kernel
def sg_116_79 : List RI := [(.iload_n 1, 1, 0, 0, 0, 0)]
theorem sk_116_79 : segB 11 false prog_13_method_36_code 79 sg_116_79 = true := by decide +kernel
theorem ck_116_9 : decode prog_13_method_36_code 9 = .ok (.if_icmp .ge 29, 3) ∧ lnkB 11 false 9 (.if_icmp .ge 29, 3, 38, 0, 0, 0) = true := by decide +kernel
theorem ck_116_13 : decode prog_13_method_36_code 13 = .ok (.ifCond .eq 17, 3) ∧ lnkB 11 false 13 (.ifCond .eq 17, 3, 30, 0, 0, 0) = true := by decide +kernel
theorem ca_116_21 : decode prog_13_method_36_code 21 = .ok (.iaload, 1) ∧ lnkB 11 false 21 (.iaload, 1, 0, 0, 0, 0) = true := by decide +kernel
theorem ck_116_23 : decode prog_13_method_36_code 23 = .ok (.if_icmp .eq 7, 3) ∧ lnkB 11 false 23 (.if_icmp .eq 7, 3, 30, 0, 0, 0) = true := by decide +kernel
theorem ck_116_27 : decode prog_13_method_36_code 27 = .ok (.goto 4, 3) ∧ lnkB 11 false 27 (.goto 4, 3, 31, 0, 0, 0) = true := by decide +kernel
theorem ck_116_35 : decode prog_13_method_36_code 35 = .ok (.goto (-31), 3) ∧ lnkB 11 false 35 (.goto (-31), 3, 4, 0, 0, 0) = true := by decide +kernel
theorem ck_116_45 : decode prog_13_method_36_code 45 = .ok (.if_icmp .ge 34, 3) ∧ lnkB 11 false 45 (.if_icmp .ge 34, 3, 79, 0, 0, 0) = true := by decide +kernel
theorem ck_116_49 : decode prog_13_method_36_code 49 = .ok (.ifCond .eq 22, 3) ∧ lnkB 11 false 49 (.ifCond .eq 22, 3, 71, 0, 0, 0) = true := by decide +kernel
theorem ca_116_61 : decode prog_13_method_36_code 61 = .ok (.iaload, 1) ∧ lnkB 11 false 61 (.iaload, 1, 0, 0, 0, 0) = true := by decide +kernel
theorem ca_116_62 : decode prog_13_method_36_code 62 = .ok (.iaload, 1) ∧ lnkB 11 false 62 (.iaload, 1, 0, 0, 0, 0) = true := by decide +kernel
theorem ck_116_64 : decode prog_13_method_36_code 64 = .ok (.if_icmp .eq 7, 3) ∧ lnkB 11 false 64 (.if_icmp .eq 7, 3, 71, 0, 0, 0) = true := by decide +kernel
theorem ck_116_68 : decode prog_13_method_36_code 68 = .ok (.goto 4, 3) ∧ lnkB 11 false 68 (.goto 4, 3, 72, 0, 0, 0) = true := by decide +kernel
theorem ck_116_76 : decode prog_13_method_36_code 76 = .ok (.goto (-36), 3) ∧ lnkB 11 false 76 (.goto (-36), 3, 40, 0, 0, 0) = true := by decide +kernel
theorem ck_116_80 : decode prog_13_method_36_code 80 = .ok (.ireturn, 1) ∧ lnkB 11 false 80 (.ireturn, 1, 0, 0, 0, 0) = true := by decide +kernel
abbrev RU_116 (d : Nat) (cp : Nat × Nat) (Post : Option Value → Sto → Prop) : PP := Runs (Ex d) prog_13_method_36_code 11 false 3 (some .boolean) none cp Post
theorem en_116 {d : Nat} {As : List Value} {S : Sto} {mc ms : Nat} {Post : Option Value → Sto → Prop} (hc : cats As ≤ 3) (h : RU_116 d (mc, ms) Post 0 (lv_args 0 As) [] S 0 0) : Ex (d + 1) 116 As S mc ms Post := ⟨by decide, hc, h⟩
def sg_117_0 : List RI := [(.aload_n 0, 1, 0, 0, 0, 0), (.getfield 121, 3, 11, 44, 2, 0), (.iload_n 1, 1, 0, 0, 0, 0)]
theorem sk_117_0 : segB 11 false prog_13_method_43_code 0 sg_117_0 = true := by decide +kernel
def sg_117_6 : List RI := [(.iconst 4, 1, 0, 0, 0, 4)]
theorem sk_117_6 : segB 11 false prog_13_method_43_code 6 sg_117_6 = true := by decide +kernel
def sg_117_10 : List RI := [(.aload_n 0, 1, 0, 0, 0, 0), (.aload_n 0, 1, 0, 0, 0, 0), (.getfield 124, 3, 11, 45, 2, 0), (.iload_n 1, 1, 0, 0, 0, 0)]
theorem sk_117_10 : segB 11 false prog_13_method_43_code 10 sg_117_10 = true := by decide +kernel
def sg_117_21 : List RI := [(.aload_n 0, 1, 0, 0, 0, 0), (.iload_n 1, 1, 0, 0, 0, 0), (.iload_n 2, 1, 0, 0, 0, 0)]
theorem sk_117_21 : segB 11 false prog_13_method_43_code 21 sg_117_21 = true := by decide +kernel
def sg_117_30 : List RI := [(.aload_n 0, 1, 0, 0, 0, 0), (.bipush 6, 2, 0, 0, 0, 6)]
theorem sk_117_30 : segB 11 false prog_13_method_43_code 30 sg_117_30 = true := by decide +kernel
def sg_117_37 : List RI := [(.aload_n 0, 1, 0, 0, 0, 0), (.iconst 1, 1, 0, 0, 0, 1)]
theorem sk_117_37 : segB 11 false prog_13_method_43_code 37 sg_117_37 = true := by decide +kernel
def sg_117_42 : List RI := [(.iconst 0, 1, 0, 0, 0, 0), (.istore_n 3, 1, 0, 0, 0, 0)]
theorem sk_117_42 : segB 11 false prog_13_method_43_code 42 sg_117_42 = true := by decide +kernel
def sg_117_44 : List RI := [(.iload_n 3, 1, 0, 0, 0, 0), (.aload_n 0, 1, 0, 0, 0, 0), (.getfield 105, 3, 11, 38, 2, 0), (.iload_n 2, 1, 0, 0, 0, 0)]
theorem sk_117_44 : segB 11 false prog_13_method_43_code 44 sg_117_44 = true := by decide +kernel
def sg_117_54 : List RI := [(.aload_n 0, 1, 0, 0, 0, 0), (.getfield 108, 3, 11, 39, 2, 0), (.bipush 6, 2, 0, 0, 0, 6), (.iload_n 2, 1, 0, 0, 0, 0), (.imul, 1, 0, 0, 0, 0), (.iload_n 3, 1, 0, 0, 0, 0), (.iadd, 1, 0, 0, 0, 0)]
theorem sk_117_54 : segB 11 false prog_13_method_43_code 54 sg_117_54 = true := by decide +kernel
def sg_117_65 : List RI := [(.istore 4, 2, 0, 0, 0, 0), (.iconst 4, 1, 0, 0, 0, 4), (.iload_n 1, 1, 0, 0, 0, 0), (.bipush 32, 2, 0, 0, 0, 32), (.idiv, 1, 0, 0, 0, 0), (.imul, 1, 0, 0, 0, 0), (.iload 4, 2, 0, 0, 0, 0), (.iadd, 1, 0, 0, 0, 0), (.istore 5, 2, 0, 0, 0, 0), (.aload_n 0, 1, 0, 0, 0, 0), (.getfield 111, 3, 11, 40, 2, 0), (.bipush 6, 2, 0, 0, 0, 6), (.iload_n 2, 1, 0, 0, 0, 0), (.imul, 1, 0, 0, 0, 0), (.iload_n 3, 1, 0, 0, 0, 0), (.iadd, 1, 0, 0, 0, 0)]
theorem sk_117_65 : segB 11 false prog_13_method_43_code 65 sg_117_65 = true := by decide +kernel
def sg_117_89 : List RI := [(.istore 6, 2, 0, 0, 0, 0), (.aload_n 0, 1, 0, 0, 0, 0), (.getfield 52, 3, 11, 17, 2, 0), (.iload 5, 2, 0, 0, 0, 0)]
theorem sk_117_89 : segB 11 false prog_13_method_43_code 89 sg_117_89 = true := by decide +kernel
def sg_117_101 : List RI := [(.aload_n 0, 1, 0, 0, 0, 0), (.aload_n 0, 1, 0, 0, 0, 0), (.getfield 68, 3, 11, 22, 2, 0), (.iconst 4, 1, 0, 0, 0, 4), (.iload_n 1, 1, 0, 0, 0, 0), (.imul, 1, 0, 0, 0, 0), (.iload 4, 2, 0, 0, 0, 0), (.iadd, 1, 0, 0, 0, 0)]
theorem sk_117_101 : segB 11 false prog_13_method_43_code 101 sg_117_101 = true := by decide +kernel
def sg_117_119 : List RI := [(.aload_n 0, 1, 0, 0, 0, 0), (.getfield 52, 3, 11, 17, 2, 0), (.iload 5, 2, 0, 0, 0, 0)]
theorem sk_117_119 : segB 11 false prog_13_method_43_code 119 sg_117_119 = true := by decide +kernel
def sg_117_126 : List RI := [(.iconst 1, 1, 0, 0, 0, 1)]
theorem sk_117_126 : segB 11 false prog_13_method_43_code 126 sg_117_126 = true := by decide +kernel
def sg_117_130 : List RI := [(.aload_n 0, 1, 0, 0, 0, 0), (.getfield 71, 3, 11, 23, 2, 0), (.iconst 4, 1, 0, 0, 0, 4), (.iload_n 1, 1, 0, 0, 0, 0), (.imul, 1, 0, 0, 0, 0), (.iload 4, 2, 0, 0, 0, 0), (.iadd, 1, 0, 0, 0, 0)]
theorem sk_117_130 : segB 11 false prog_13_method_43_code 130 sg_117_130 = true := by decide +kernel
def sg_117_141 : List RI := [(.iconst (-1), 1, 0, 0, 0, -1)]
theorem sk_117_141 : segB 11 false prog_13_method_43_code 141 sg_117_141 = true := by decide +kernel
def sg_117_145 : List RI := [(.aload_n 0, 1, 0, 0, 0, 0), (.iconst 2, 1, 0, 0, 0, 2)]
theorem sk_117_145 : segB 11 false prog_13_method_43_code 145 sg_117_145 = true := by decide +kernel
def sg_117_153 : List RI := [(.aload_n 0, 1, 0, 0, 0, 0), (.bipush 32, 2, 0, 0, 0, 32), (.aload_n 0, 1, 0, 0, 0, 0), (.getfield 55, 3, 11, 18, 2, 0), (.iload 5, 2, 0, 0, 0, 0)]
theorem sk_117_153 : segB 11 false prog_13_method_43_code 153 sg_117_153 = true := by decide +kernel
def sg_117_163 : List RI := [(.imul, 1, 0, 0, 0, 0), (.aload_n 0, 1, 0, 0, 0, 0), (.getfield 71, 3, 11, 23, 2, 0), (.iconst 4, 1, 0, 0, 0, 4), (.iload_n 1, 1, 0, 0, 0, 0), (.imul, 1, 0, 0, 0, 0), (.iload 4, 2, 0, 0, 0, 0), (.iadd, 1, 0, 0, 0, 0)]
theorem sk_117_163 : segB 11 false prog_13_method_43_code 163 sg_117_163 = true := by decide +kernel
def sg_117_175 : List RI := [(.iadd, 1, 0, 0, 0, 0), (.iload 6, 2, 0, 0, 0, 0)]
theorem sk_117_175 : segB 11 false prog_13_method_43_code 175 sg_117_175 = true := by decide +kernel
def sg_117_184 : List RI := [(.aload_n 0, 1, 0, 0, 0, 0), (.aload_n 0, 1, 0, 0, 0, 0), (.iload_n 1, 1, 0, 0, 0, 0), (.iload 4, 2, 0, 0, 0, 0)]
theorem sk_117_184 : segB 11 false prog_13_method_43_code 184 sg_117_184 = true := by decide +kernel
def sg_117_195 : List RI := [(.iconst 0, 1, 0, 0, 0, 0), (.istore 7, 2, 0, 0, 0, 0)]
theorem sk_117_195 : segB 11 false prog_13_method_43_code 195 sg_117_195 = true := by decide +kernel
def sg_117_198 : List RI := [(.iload 7, 2, 0, 0, 0, 0), (.aload_n 0, 1, 0, 0, 0, 0), (.iload_n 1, 1, 0, 0, 0, 0), (.iload 4, 2, 0, 0, 0, 0)]
theorem sk_117_198 : segB 11 false prog_13_method_43_code 198 sg_117_198 = true := by decide +kernel
def sg_117_210 : List RI := [(.aload_n 0, 1, 0, 0, 0, 0), (.bipush 32, 2, 0, 0, 0, 32), (.aload_n 0, 1, 0, 0, 0, 0), (.getfield 55, 3, 11, 18, 2, 0), (.iload 5, 2, 0, 0, 0, 0)]
theorem sk_117_210 : segB 11 false prog_13_method_43_code 210 sg_117_210 = true := by decide +kernel
def sg_117_220 : List RI := [(.imul, 1, 0, 0, 0, 0), (.aload_n 0, 1, 0, 0, 0, 0), (.iload_n 1, 1, 0, 0, 0, 0), (.iload 4, 2, 0, 0, 0, 0), (.iload 7, 2, 0, 0, 0, 0)]
theorem sk_117_220 : segB 11 false prog_13_method_43_code 220 sg_117_220 = true := by decide +kernel
def sg_117_230 : List RI := [(.iadd, 1, 0, 0, 0, 0), (.iload 6, 2, 0, 0, 0, 0)]
theorem sk_117_230 : segB 11 false prog_13_method_43_code 230 sg_117_230 = true := by decide +kernel
def sg_117_236 : List RI := [(.iinc 7 1, 3, 0, 0, 0, 1)]
theorem sk_117_236 : segB 11 false prog_13_method_43_code 236 sg_117_236 = true := by decide +kernel
def sg_117_242 : List RI := [(.iinc 3 1, 3, 0, 0, 0, 1)]
theorem sk_117_242 : segB 11 false prog_13_method_43_code 242 sg_117_242 = true := by decide +kernel
theorem ca_117_5 : decode prog_13_method_43_code 5 = .ok (.iaload, 1) ∧ lnkB 11 false 5 (.iaload, 1, 0, 0, 0, 0) = true := by decide +kernel
theorem ck_117_7 : decode prog_13_method_43_code 7 = .ok (.if_icmp .ne 14, 3) ∧ lnkB 11 false 7 (.if_icmp .ne 14, 3, 21, 0, 0, 0) = true := by decide +kernel
theorem ca_117_16 : decode prog_13_method_43_code 16 = .ok (.iaload, 1) ∧ lnkB 11 false 16 (.iaload, 1, 0, 0, 0, 0) = true := by decide +kernel
theorem ck_117_17 : decode prog_13_method_43_code 17 = .ok (.invokevirtual 295, 3) ∧ lnkB 11 false 17 (.invokevirtual 295, 3, 118, 0, 0, 0) = true := by decide +kernel
theorem ck_117_20 : decode prog_13_method_43_code 20 = .ok (.return_, 1) ∧ lnkB 11 false 20 (.return_, 1, 0, 0, 0, 0) = true := by decide +kernel
theorem ck_117_24 : decode prog_13_method_43_code 24 = .ok (.invokevirtual 292, 3) ∧ lnkB 11 false 24 (.invokevirtual 292, 3, 120, 0, 0, 0) = true := by decide +kernel
theorem ck_117_27 : decode prog_13_method_43_code 27 = .ok (.ifCond .eq 10, 3) ∧ lnkB 11 false 27 (.ifCond .eq 10, 3, 37, 0, 0, 0) = true := by decide +kernel
theorem ck_117_33 : decode prog_13_method_43_code 33 = .ok (.invokevirtual 295, 3) ∧ lnkB 11 false 33 (.invokevirtual 295, 3, 118, 0, 0, 0) = true := by decide +kernel
theorem ck_117_36 : decode prog_13_method_43_code 36 = .ok (.return_, 1) ∧ lnkB 11 false 36 (.return_, 1, 0, 0, 0, 0) = true := by decide +kernel
theorem ck_117_39 : decode prog_13_method_43_code 39 = .ok (.invokevirtual 289, 3) ∧ lnkB 11 false 39 (.invokevirtual 289, 3, 119, 0, 0, 0) = true := by decide +kernel
theorem ca_117_50 : decode prog_13_method_43_code 50 = .ok (.iaload, 1) ∧ lnkB 11 false 50 (.iaload, 1, 0, 0, 0, 0) = true := by decide +kernel
theorem ck_117_51 : decode prog_13_method_43_code 51 = .ok (.if_icmp .ge 197, 3) ∧ lnkB 11 false 51 (.if_icmp .ge 197, 3, 248, 0, 0, 0) = true := by decide +kernel
theorem ca_117_64 : decode prog_13_method_43_code 64 = .ok (.iaload, 1) ∧ lnkB 11 false 64 (.iaload, 1, 0, 0, 0, 0) = true := by decide +kernel
theorem ca_117_88 : decode prog_13_method_43_code 88 = .ok (.iaload, 1) ∧ lnkB 11 false 88 (.iaload, 1, 0, 0, 0, 0) = true := by decide +kernel
theorem ca_117_97 : decode prog_13_method_43_code 97 = .ok (.iaload, 1) ∧ lnkB 11 false 97 (.iaload, 1, 0, 0, 0, 0) = true := by decide +kernel
theorem ck_117_98 : decode prog_13_method_43_code 98 = .ok (.ifCond .ne 21, 3) ∧ lnkB 11 false 98 (.ifCond .ne 21, 3, 119, 0, 0, 0) = true := by decide +kernel
theorem ca_117_112 : decode prog_13_method_43_code 112 = .ok (.iaload, 1) ∧ lnkB 11 false 112 (.iaload, 1, 0, 0, 0, 0) = true := by decide +kernel
theorem ck_117_113 : decode prog_13_method_43_code 113 = .ok (.invokevirtual 289, 3) ∧ lnkB 11 false 113 (.invokevirtual 289, 3, 119, 0, 0, 0) = true := by decide +kernel
theorem ck_117_116 : decode prog_13_method_43_code 116 = .ok (.goto 126, 3) ∧ lnkB 11 false 116 (.goto 126, 3, 242, 0, 0, 0) = true := by decide +kernel
theorem ca_117_125 : decode prog_13_method_43_code 125 = .ok (.iaload, 1) ∧ lnkB 11 false 125 (.iaload, 1, 0, 0, 0, 0) = true := by decide +kernel
theorem ck_117_127 : decode prog_13_method_43_code 127 = .ok (.if_icmp .ne 57, 3) ∧ lnkB 11 false 127 (.if_icmp .ne 57, 3, 184, 0, 0, 0) = true := by decide +kernel
theorem ca_117_140 : decode prog_13_method_43_code 140 = .ok (.iaload, 1) ∧ lnkB 11 false 140 (.iaload, 1, 0, 0, 0, 0) = true := by decide +kernel
theorem ck_117_142 : decode prog_13_method_43_code 142 = .ok (.if_icmp .ne 11, 3) ∧ lnkB 11 false 142 (.if_icmp .ne 11, 3, 153, 0, 0, 0) = true := by decide +kernel
theorem ck_117_147 : decode prog_13_method_43_code 147 = .ok (.invokevirtual 295, 3) ∧ lnkB 11 false 147 (.invokevirtual 295, 3, 118, 0, 0, 0) = true := by decide +kernel
theorem ck_117_150 : decode prog_13_method_43_code 150 = .ok (.goto 92, 3) ∧ lnkB 11 false 150 (.goto 92, 3, 242, 0, 0, 0) = true := by decide +kernel
theorem ca_117_162 : decode prog_13_method_43_code 162 = .ok (.iaload, 1) ∧ lnkB 11 false 162 (.iaload, 1, 0, 0, 0, 0) = true := by decide +kernel
theorem ca_117_174 : decode prog_13_method_43_code 174 = .ok (.iaload, 1) ∧ lnkB 11 false 174 (.iaload, 1, 0, 0, 0, 0) = true := by decide +kernel
theorem ck_117_178 : decode prog_13_method_43_code 178 = .ok (.invokevirtual 286, 3) ∧ lnkB 11 false 178 (.invokevirtual 286, 3, 117, 0, 0, 0) = true := by decide +kernel
theorem ck_117_181 : decode prog_13_method_43_code 181 = .ok (.goto 61, 3) ∧ lnkB 11 false 181 (.goto 61, 3, 242, 0, 0, 0) = true := by decide +kernel
theorem ck_117_189 : decode prog_13_method_43_code 189 = .ok (.invokevirtual 240, 3) ∧ lnkB 11 false 189 (.invokevirtual 240, 3, 106, 0, 0, 0) = true := by decide +kernel
theorem ck_117_192 : decode prog_13_method_43_code 192 = .ok (.invokevirtual 289, 3) ∧ lnkB 11 false 192 (.invokevirtual 289, 3, 119, 0, 0, 0) = true := by decide +kernel
theorem ck_117_204 : decode prog_13_method_43_code 204 = .ok (.invokevirtual 240, 3) ∧ lnkB 11 false 204 (.invokevirtual 240, 3, 106, 0, 0, 0) = true := by decide +kernel
theorem ck_117_207 : decode prog_13_method_43_code 207 = .ok (.if_icmp .ge 35, 3) ∧ lnkB 11 false 207 (.if_icmp .ge 35, 3, 242, 0, 0, 0) = true := by decide +kernel
theorem ca_117_219 : decode prog_13_method_43_code 219 = .ok (.iaload, 1) ∧ lnkB 11 false 219 (.iaload, 1, 0, 0, 0, 0) = true := by decide +kernel
theorem ck_117_227 : decode prog_13_method_43_code 227 = .ok (.invokevirtual 244, 3) ∧ lnkB 11 false 227 (.invokevirtual 244, 3, 107, 0, 0, 0) = true := by decide +kernel
theorem ck_117_233 : decode prog_13_method_43_code 233 = .ok (.invokevirtual 286, 3) ∧ lnkB 11 false 233 (.invokevirtual 286, 3, 117, 0, 0, 0) = true := by decide +kernel
theorem ck_117_239 : decode prog_13_method_43_code 239 = .ok (.goto (-41), 3) ∧ lnkB 11 false 239 (.goto (-41), 3, 198, 0, 0, 0) = true := by decide +kernel
theorem ck_117_245 : decode prog_13_method_43_code 245 = .ok (.goto (-201), 3) ∧ lnkB 11 false 245 (.goto (-201), 3, 44, 0, 0, 0) = true := by decide +kernel
theorem ck_117_248 : decode prog_13_method_43_code 248 = .ok (.return_, 1) ∧ lnkB 11 false 248 (.return_, 1, 0, 0, 0, 0) = true := by decide +kernel
abbrev RU_117 (d : Nat) (cp : Nat × Nat) (Post : Option Value → Sto → Prop) : PP := Runs (Ex d) prog_13_method_43_code 11 false 8 none none cp Post
theorem en_117 {d : Nat} {As : List Value} {S : Sto} {mc ms : Nat} {Post : Option Value → Sto → Prop} (hc : cats As ≤ 8) (h : RU_117 d (mc, ms) Post 0 (lv_args 0 As) [] S 0 0) : Ex (d + 1) 117 As S mc ms Post := ⟨by decide, hc, h⟩
def sg_118_0 : List RI := [(.aload_n 0, 1, 0, 0, 0, 0), (.iconst 0, 1, 0, 0, 0, 0)]
theorem sk_118_0 : segB 11 false prog_13_method_41_code 0 sg_118_0 = true := by decide +kernel
def sg_118_5 : List RI := [(.aload_n 0, 1, 0, 0, 0, 0), (.iload_n 1, 1, 0, 0, 0, 0)]
theorem sk_118_5 : segB 11 false prog_13_method_41_code 5 sg_118_5 = true := by decide +kernel
def sg_118_10 : List RI := [(.aload_n 0, 1, 0, 0, 0, 0), (.iconst 1, 1, 0, 0, 0, 1), (.putfield 282, 3, 11, 60, 0, 0)]
theorem sk_118_10 : segB 11 false prog_13_method_41_code 10 sg_118_10 = true := by decide +kernel
theorem ck_118_2 : decode prog_13_method_41_code 2 = .ok (.invokevirtual 289, 3) ∧ lnkB 11 false 2 (.invokevirtual 289, 3, 119, 0, 0, 0) = true := by decide +kernel
theorem ck_118_7 : decode prog_13_method_41_code 7 = .ok (.invokevirtual 289, 3) ∧ lnkB 11 false 7 (.invokevirtual 289, 3, 119, 0, 0, 0) = true := by decide +kernel
theorem ck_118_15 : decode prog_13_method_41_code 15 = .ok (.return_, 1) ∧ lnkB 11 false 15 (.return_, 1, 0, 0, 0, 0) = true := by decide +kernel
abbrev RU_118 (d : Nat) (cp : Nat × Nat) (Post : Option Value → Sto → Prop) : PP := Runs (Ex d) prog_13_method_41_code 11 false 2 none none cp Post
theorem en_118 {d : Nat} {As : List Value} {S : Sto} {mc ms : Nat} {Post : Option Value → Sto → Prop} (hc : cats As ≤ 2) (h : RU_118 d (mc, ms) Post 0 (lv_args 0 As) [] S 0 0) : Ex (d + 1) 118 As S mc ms Post := ⟨by decide, hc, h⟩
def sg_119_0 : List RI := [(.aload_n 0, 1, 0, 0, 0, 0), (.getfield 156, 3, 11, 61, 2, 0), (.aload_n 0, 1, 0, 0, 0, 0), (.getfield 279, 3, 11, 59, 0, 0), (.iload_n 1, 1, 0, 0, 0, 0)]
theorem sk_119_0 : segB 11 false prog_13_method_40_code 0 sg_119_0 = true := by decide +kernel
def sg_119_10 : List RI := [(.aload_n 0, 1, 0, 0, 0, 0), (.dup, 1, 0, 0, 0, 0), (.getfield 279, 3, 11, 59, 0, 0), (.iconst 1, 1, 0, 0, 0, 1), (.iadd, 1, 0, 0, 0, 0), (.putfield 279, 3, 11, 59, 0, 0)]
theorem sk_119_10 : segB 11 false prog_13_method_40_code 10 sg_119_10 = true := by decide +kernel
theorem ca_119_9 : decode prog_13_method_40_code 9 = .ok (.iastore, 1) ∧ lnkB 11 false 9 (.iastore, 1, 0, 0, 0, 0) = true := by decide +kernel
theorem ck_119_20 : decode prog_13_method_40_code 20 = .ok (.return_, 1) ∧ lnkB 11 false 20 (.return_, 1, 0, 0, 0, 0) = true := by decide +kernel
abbrev RU_119 (d : Nat) (cp : Nat × Nat) (Post : Option Value → Sto → Prop) : PP := Runs (Ex d) prog_13_method_40_code 11 false 2 none none cp Post
theorem en_119 {d : Nat} {As : List Value} {S : Sto} {mc ms : Nat} {Post : Option Value → Sto → Prop} (hc : cats As ≤ 2) (h : RU_119 d (mc, ms) Post 0 (lv_args 0 As) [] S 0 0) : Ex (d + 1) 119 As S mc ms Post := ⟨by decide, hc, h⟩
def sg_120_0 : List RI := [(.aload_n 0, 1, 0, 0, 0, 0), (.getfield 121, 3, 11, 44, 2, 0), (.iload_n 1, 1, 0, 0, 0, 0)]
theorem sk_120_0 : segB 11 false prog_13_method_42_code 0 sg_120_0 = true := by decide +kernel
def sg_120_6 : List RI := [(.iconst 4, 1, 0, 0, 0, 4)]
theorem sk_120_6 : segB 11 false prog_13_method_42_code 6 sg_120_6 = true := by decide +kernel
def sg_120_10 : List RI := [(.iconst 1, 1, 0, 0, 0, 1)]
theorem sk_120_10 : segB 11 false prog_13_method_42_code 10 sg_120_10 = true := by decide +kernel
def sg_120_12 : List RI := [(.iconst 0, 1, 0, 0, 0, 0), (.istore_n 3, 1, 0, 0, 0, 0), (.iconst 0, 1, 0, 0, 0, 0), (.istore 4, 2, 0, 0, 0, 0)]
theorem sk_120_12 : segB 11 false prog_13_method_42_code 12 sg_120_12 = true := by decide +kernel
def sg_120_17 : List RI := [(.iload 4, 2, 0, 0, 0, 0), (.aload_n 0, 1, 0, 0, 0, 0), (.getfield 105, 3, 11, 38, 2, 0), (.iload_n 2, 1, 0, 0, 0, 0)]
theorem sk_120_17 : segB 11 false prog_13_method_42_code 17 sg_120_17 = true := by decide +kernel
def sg_120_28 : List RI := [(.iload_n 3, 1, 0, 0, 0, 0)]
theorem sk_120_28 : segB 11 false prog_13_method_42_code 28 sg_120_28 = true := by decide +kernel
def sg_120_32 : List RI := [(.aload_n 0, 1, 0, 0, 0, 0), (.getfield 108, 3, 11, 39, 2, 0), (.bipush 6, 2, 0, 0, 0, 6), (.iload_n 2, 1, 0, 0, 0, 0), (.imul, 1, 0, 0, 0, 0), (.iload 4, 2, 0, 0, 0, 0), (.iadd, 1, 0, 0, 0, 0)]
theorem sk_120_32 : segB 11 false prog_13_method_42_code 32 sg_120_32 = true := by decide +kernel
def sg_120_44 : List RI := [(.istore 5, 2, 0, 0, 0, 0), (.iconst 4, 1, 0, 0, 0, 4), (.iload_n 1, 1, 0, 0, 0, 0), (.bipush 32, 2, 0, 0, 0, 32), (.idiv, 1, 0, 0, 0, 0), (.imul, 1, 0, 0, 0, 0), (.iload 5, 2, 0, 0, 0, 0), (.iadd, 1, 0, 0, 0, 0), (.istore 6, 2, 0, 0, 0, 0), (.aload_n 0, 1, 0, 0, 0, 0), (.getfield 111, 3, 11, 40, 2, 0), (.bipush 6, 2, 0, 0, 0, 6), (.iload_n 2, 1, 0, 0, 0, 0), (.imul, 1, 0, 0, 0, 0), (.iload 4, 2, 0, 0, 0, 0), (.iadd, 1, 0, 0, 0, 0)]
theorem sk_120_44 : segB 11 false prog_13_method_42_code 44 sg_120_44 = true := by decide +kernel
def sg_120_69 : List RI := [(.istore 7, 2, 0, 0, 0, 0), (.aload_n 0, 1, 0, 0, 0, 0), (.getfield 61, 3, 11, 20, 2, 0), (.iload 6, 2, 0, 0, 0, 0)]
theorem sk_120_69 : segB 11 false prog_13_method_42_code 69 sg_120_69 = true := by decide +kernel
def sg_120_81 : List RI := [(.aload_n 0, 1, 0, 0, 0, 0), (.getfield 52, 3, 11, 17, 2, 0), (.iload 6, 2, 0, 0, 0, 0)]
theorem sk_120_81 : segB 11 false prog_13_method_42_code 81 sg_120_81 = true := by decide +kernel
def sg_120_88 : List RI := [(.iconst 1, 1, 0, 0, 0, 1)]
theorem sk_120_88 : segB 11 false prog_13_method_42_code 88 sg_120_88 = true := by decide +kernel
def sg_120_92 : List RI := [(.aload_n 0, 1, 0, 0, 0, 0), (.getfield 71, 3, 11, 23, 2, 0), (.iconst 4, 1, 0, 0, 0, 4), (.iload_n 1, 1, 0, 0, 0, 0), (.imul, 1, 0, 0, 0, 0), (.iload 5, 2, 0, 0, 0, 0), (.iadd, 1, 0, 0, 0, 0)]
theorem sk_120_92 : segB 11 false prog_13_method_42_code 92 sg_120_92 = true := by decide +kernel
def sg_120_103 : List RI := [(.iconst (-1), 1, 0, 0, 0, -1)]
theorem sk_120_103 : segB 11 false prog_13_method_42_code 103 sg_120_103 = true := by decide +kernel
def sg_120_107 : List RI := [(.aload_n 0, 1, 0, 0, 0, 0), (.bipush 32, 2, 0, 0, 0, 32), (.aload_n 0, 1, 0, 0, 0, 0), (.getfield 55, 3, 11, 18, 2, 0), (.iload 6, 2, 0, 0, 0, 0)]
theorem sk_120_107 : segB 11 false prog_13_method_42_code 107 sg_120_107 = true := by decide +kernel
def sg_120_117 : List RI := [(.imul, 1, 0, 0, 0, 0), (.aload_n 0, 1, 0, 0, 0, 0), (.getfield 71, 3, 11, 23, 2, 0), (.iconst 4, 1, 0, 0, 0, 4), (.iload_n 1, 1, 0, 0, 0, 0), (.imul, 1, 0, 0, 0, 0), (.iload 5, 2, 0, 0, 0, 0), (.iadd, 1, 0, 0, 0, 0)]
theorem sk_120_117 : segB 11 false prog_13_method_42_code 117 sg_120_117 = true := by decide +kernel
def sg_120_129 : List RI := [(.iadd, 1, 0, 0, 0, 0), (.iload 7, 2, 0, 0, 0, 0)]
theorem sk_120_129 : segB 11 false prog_13_method_42_code 129 sg_120_129 = true := by decide +kernel
def sg_120_138 : List RI := [(.iconst 1, 1, 0, 0, 0, 1)]
theorem sk_120_138 : segB 11 false prog_13_method_42_code 138 sg_120_138 = true := by decide +kernel
def sg_120_142 : List RI := [(.iconst 0, 1, 0, 0, 0, 0)]
theorem sk_120_142 : segB 11 false prog_13_method_42_code 142 sg_120_142 = true := by decide +kernel
def sg_120_143 : List RI := [(.istore_n 3, 1, 0, 0, 0, 0)]
theorem sk_120_143 : segB 11 false prog_13_method_42_code 143 sg_120_143 = true := by decide +kernel
def sg_120_147 : List RI := [(.aload_n 0, 1, 0, 0, 0, 0), (.getfield 61, 3, 11, 20, 2, 0), (.iload 6, 2, 0, 0, 0, 0)]
theorem sk_120_147 : segB 11 false prog_13_method_42_code 147 sg_120_147 = true := by decide +kernel
def sg_120_157 : List RI := [(.aload_n 0, 1, 0, 0, 0, 0), (.getfield 52, 3, 11, 17, 2, 0), (.iload 6, 2, 0, 0, 0, 0)]
theorem sk_120_157 : segB 11 false prog_13_method_42_code 157 sg_120_157 = true := by decide +kernel
def sg_120_164 : List RI := [(.iconst 2, 1, 0, 0, 0, 2)]
theorem sk_120_164 : segB 11 false prog_13_method_42_code 164 sg_120_164 = true := by decide +kernel
def sg_120_168 : List RI := [(.iconst 0, 1, 0, 0, 0, 0), (.istore 8, 2, 0, 0, 0, 0)]
theorem sk_120_168 : segB 11 false prog_13_method_42_code 168 sg_120_168 = true := by decide +kernel
def sg_120_171 : List RI := [(.iload 8, 2, 0, 0, 0, 0), (.aload_n 0, 1, 0, 0, 0, 0), (.iload_n 1, 1, 0, 0, 0, 0), (.iload 5, 2, 0, 0, 0, 0)]
theorem sk_120_171 : segB 11 false prog_13_method_42_code 171 sg_120_171 = true := by decide +kernel
def sg_120_183 : List RI := [(.iload_n 3, 1, 0, 0, 0, 0)]
theorem sk_120_183 : segB 11 false prog_13_method_42_code 183 sg_120_183 = true := by decide +kernel
def sg_120_187 : List RI := [(.aload_n 0, 1, 0, 0, 0, 0), (.bipush 32, 2, 0, 0, 0, 32), (.aload_n 0, 1, 0, 0, 0, 0), (.getfield 55, 3, 11, 18, 2, 0), (.iload 6, 2, 0, 0, 0, 0)]
theorem sk_120_187 : segB 11 false prog_13_method_42_code 187 sg_120_187 = true := by decide +kernel
def sg_120_197 : List RI := [(.imul, 1, 0, 0, 0, 0), (.aload_n 0, 1, 0, 0, 0, 0), (.iload_n 1, 1, 0, 0, 0, 0), (.iload 5, 2, 0, 0, 0, 0), (.iload 8, 2, 0, 0, 0, 0)]
theorem sk_120_197 : segB 11 false prog_13_method_42_code 197 sg_120_197 = true := by decide +kernel
def sg_120_207 : List RI := [(.iadd, 1, 0, 0, 0, 0), (.iload 7, 2, 0, 0, 0, 0)]
theorem sk_120_207 : segB 11 false prog_13_method_42_code 207 sg_120_207 = true := by decide +kernel
def sg_120_213 : List RI := [(.istore_n 3, 1, 0, 0, 0, 0), (.iinc 8 1, 3, 0, 0, 0, 1)]
theorem sk_120_213 : segB 11 false prog_13_method_42_code 213 sg_120_213 = true := by decide +kernel
def sg_120_220 : List RI := [(.iinc 4 1, 3, 0, 0, 0, 1)]
theorem sk_120_220 : segB 11 false prog_13_method_42_code 220 sg_120_220 = true := by decide +kernel
def sg_120_226 : List RI := [(.iload_n 3, 1, 0, 0, 0, 0)]
theorem sk_120_226 : segB 11 false prog_13_method_42_code 226 sg_120_226 = true := by decide +kernel
theorem ca_120_5 : decode prog_13_method_42_code 5 = .ok (.iaload, 1) ∧ lnkB 11 false 5 (.iaload, 1, 0, 0, 0, 0) = true := by decide +kernel
theorem ck_120_7 : decode prog_13_method_42_code 7 = .ok (.if_icmp .ne 5, 3) ∧ lnkB 11 false 7 (.if_icmp .ne 5, 3, 12, 0, 0, 0) = true := by decide +kernel
theorem ck_120_11 : decode prog_13_method_42_code 11 = .ok (.ireturn, 1) ∧ lnkB 11 false 11 (.ireturn, 1, 0, 0, 0, 0) = true := by decide +kernel
theorem ca_120_24 : decode prog_13_method_42_code 24 = .ok (.iaload, 1) ∧ lnkB 11 false 24 (.iaload, 1, 0, 0, 0, 0) = true := by decide +kernel
theorem ck_120_25 : decode prog_13_method_42_code 25 = .ok (.if_icmp .ge 201, 3) ∧ lnkB 11 false 25 (.if_icmp .ge 201, 3, 226, 0, 0, 0) = true := by decide +kernel
theorem ck_120_29 : decode prog_13_method_42_code 29 = .ok (.ifCond .ne 197, 3) ∧ lnkB 11 false 29 (.ifCond .ne 197, 3, 226, 0, 0, 0) = true := by decide +kernel
theorem ca_120_43 : decode prog_13_method_42_code 43 = .ok (.iaload, 1) ∧ lnkB 11 false 43 (.iaload, 1, 0, 0, 0, 0) = true := by decide +kernel
theorem ca_120_68 : decode prog_13_method_42_code 68 = .ok (.iaload, 1) ∧ lnkB 11 false 68 (.iaload, 1, 0, 0, 0, 0) = true := by decide +kernel
theorem ca_120_77 : decode prog_13_method_42_code 77 = .ok (.baload, 1) ∧ lnkB 11 false 77 (.baload, 1, 15, 0, 0, 0) = true := by decide +kernel
theorem ck_120_78 : decode prog_13_method_42_code 78 = .ok (.ifCond .eq 69, 3) ∧ lnkB 11 false 78 (.ifCond .eq 69, 3, 147, 0, 0, 0) = true := by decide +kernel
theorem ca_120_87 : decode prog_13_method_42_code 87 = .ok (.iaload, 1) ∧ lnkB 11 false 87 (.iaload, 1, 0, 0, 0, 0) = true := by decide +kernel
theorem ck_120_89 : decode prog_13_method_42_code 89 = .ok (.if_icmp .ne 58, 3) ∧ lnkB 11 false 89 (.if_icmp .ne 58, 3, 147, 0, 0, 0) = true := by decide +kernel
theorem ca_120_102 : decode prog_13_method_42_code 102 = .ok (.iaload, 1) ∧ lnkB 11 false 102 (.iaload, 1, 0, 0, 0, 0) = true := by decide +kernel
theorem ck_120_104 : decode prog_13_method_42_code 104 = .ok (.if_icmp .eq 34, 3) ∧ lnkB 11 false 104 (.if_icmp .eq 34, 3, 138, 0, 0, 0) = true := by decide +kernel
theorem ca_120_116 : decode prog_13_method_42_code 116 = .ok (.iaload, 1) ∧ lnkB 11 false 116 (.iaload, 1, 0, 0, 0, 0) = true := by decide +kernel
theorem ca_120_128 : decode prog_13_method_42_code 128 = .ok (.iaload, 1) ∧ lnkB 11 false 128 (.iaload, 1, 0, 0, 0, 0) = true := by decide +kernel
theorem ck_120_132 : decode prog_13_method_42_code 132 = .ok (.invokevirtual 292, 3) ∧ lnkB 11 false 132 (.invokevirtual 292, 3, 120, 0, 0, 0) = true := by decide +kernel
theorem ck_120_135 : decode prog_13_method_42_code 135 = .ok (.ifCond .eq 7, 3) ∧ lnkB 11 false 135 (.ifCond .eq 7, 3, 142, 0, 0, 0) = true := by decide +kernel
theorem ck_120_139 : decode prog_13_method_42_code 139 = .ok (.goto 4, 3) ∧ lnkB 11 false 139 (.goto 4, 3, 143, 0, 0, 0) = true := by decide +kernel
theorem ck_120_144 : decode prog_13_method_42_code 144 = .ok (.goto 76, 3) ∧ lnkB 11 false 144 (.goto 76, 3, 220, 0, 0, 0) = true := by decide +kernel
theorem ca_120_153 : decode prog_13_method_42_code 153 = .ok (.baload, 1) ∧ lnkB 11 false 153 (.baload, 1, 15, 0, 0, 0) = true := by decide +kernel
theorem ck_120_154 : decode prog_13_method_42_code 154 = .ok (.ifCond .eq 66, 3) ∧ lnkB 11 false 154 (.ifCond .eq 66, 3, 220, 0, 0, 0) = true := by decide +kernel
theorem ca_120_163 : decode prog_13_method_42_code 163 = .ok (.iaload, 1) ∧ lnkB 11 false 163 (.iaload, 1, 0, 0, 0, 0) = true := by decide +kernel
theorem ck_120_165 : decode prog_13_method_42_code 165 = .ok (.if_icmp .ne 55, 3) ∧ lnkB 11 false 165 (.if_icmp .ne 55, 3, 220, 0, 0, 0) = true := by decide +kernel
theorem ck_120_177 : decode prog_13_method_42_code 177 = .ok (.invokevirtual 240, 3) ∧ lnkB 11 false 177 (.invokevirtual 240, 3, 106, 0, 0, 0) = true := by decide +kernel
theorem ck_120_180 : decode prog_13_method_42_code 180 = .ok (.if_icmp .ge 40, 3) ∧ lnkB 11 false 180 (.if_icmp .ge 40, 3, 220, 0, 0, 0) = true := by decide +kernel
theorem ck_120_184 : decode prog_13_method_42_code 184 = .ok (.ifCond .ne 36, 3) ∧ lnkB 11 false 184 (.ifCond .ne 36, 3, 220, 0, 0, 0) = true := by decide +kernel
theorem ca_120_196 : decode prog_13_method_42_code 196 = .ok (.iaload, 1) ∧ lnkB 11 false 196 (.iaload, 1, 0, 0, 0, 0) = true := by decide +kernel
theorem ck_120_204 : decode prog_13_method_42_code 204 = .ok (.invokevirtual 244, 3) ∧ lnkB 11 false 204 (.invokevirtual 244, 3, 107, 0, 0, 0) = true := by decide +kernel
theorem ck_120_210 : decode prog_13_method_42_code 210 = .ok (.invokevirtual 292, 3) ∧ lnkB 11 false 210 (.invokevirtual 292, 3, 120, 0, 0, 0) = true := by decide +kernel
theorem ck_120_217 : decode prog_13_method_42_code 217 = .ok (.goto (-46), 3) ∧ lnkB 11 false 217 (.goto (-46), 3, 171, 0, 0, 0) = true := by decide +kernel
theorem ck_120_223 : decode prog_13_method_42_code 223 = .ok (.goto (-206), 3) ∧ lnkB 11 false 223 (.goto (-206), 3, 17, 0, 0, 0) = true := by decide +kernel
theorem ck_120_227 : decode prog_13_method_42_code 227 = .ok (.ireturn, 1) ∧ lnkB 11 false 227 (.ireturn, 1, 0, 0, 0, 0) = true := by decide +kernel
abbrev RU_120 (d : Nat) (cp : Nat × Nat) (Post : Option Value → Sto → Prop) : PP := Runs (Ex d) prog_13_method_42_code 11 false 9 (some .boolean) none cp Post
theorem en_120 {d : Nat} {As : List Value} {S : Sto} {mc ms : Nat} {Post : Option Value → Sto → Prop} (hc : cats As ≤ 9) (h : RU_120 d (mc, ms) Post 0 (lv_args 0 As) [] S 0 0) : Ex (d + 1) 120 As S mc ms Post := ⟨by decide, hc, h⟩
def sg_121_0 : List RI := [(.aload_n 0, 1, 0, 0, 0, 0), (.getfield 151, 3, 11, 58, 0, 0)]
theorem sk_121_0 : segB 11 false prog_13_method_44_code 0 sg_121_0 = true := by decide +kernel
theorem ck_121_4 : decode prog_13_method_44_code 4 = .ok (.ireturn, 1) ∧ lnkB 11 false 4 (.ireturn, 1, 0, 0, 0, 0) = true := by decide +kernel
abbrev RU_121 (d : Nat) (cp : Nat × Nat) (Post : Option Value → Sto → Prop) : PP := Runs (Ex d) prog_13_method_44_code 11 false 1 (some .int) none cp Post
theorem en_121 {d : Nat} {As : List Value} {S : Sto} {mc ms : Nat} {Post : Option Value → Sto → Prop} (hc : cats As ≤ 1) (h : RU_121 d (mc, ms) Post 0 (lv_args 0 As) [] S 0 0) : Ex (d + 1) 121 As S mc ms Post := ⟨by decide, hc, h⟩
def sg_122_0 : List RI := [(.iload_n 1, 1, 0, 0, 0, 0), (.iconst 0, 1, 0, 0, 0, 0), (.aload_n 0, 1, 0, 0, 0, 0), (.getfield 279, 3, 11, 59, 0, 0), (.iconst 1, 1, 0, 0, 0, 1), (.isub, 1, 0, 0, 0, 0)]
theorem sk_122_0 : segB 11 false prog_13_method_45_code 0 sg_122_0 = true := by decide +kernel
def sg_122_14 : List RI := [(.aload_n 0, 1, 0, 0, 0, 0), (.getfield 156, 3, 11, 61, 2, 0), (.iload_n 1, 1, 0, 0, 0, 0)]
theorem sk_122_14 : segB 11 false prog_13_method_45_code 14 sg_122_14 = true := by decide +kernel
def sg_122_23 : List RI := [(.iconst (-1), 1, 0, 0, 0, -1)]
theorem sk_122_23 : segB 11 false prog_13_method_45_code 23 sg_122_23 = true := by decide +kernel
theorem ck_122_8 : decode prog_13_method_45_code 8 = .ok (.invokestatic 162, 3) ∧ lnkB 11 false 8 (.invokestatic 162, 3, 81, 0, 0, 0) = true := by decide +kernel
theorem ck_122_11 : decode prog_13_method_45_code 11 = .ok (.ifCond .eq 12, 3) ∧ lnkB 11 false 11 (.ifCond .eq 12, 3, 23, 0, 0, 0) = true := by decide +kernel
theorem ca_122_19 : decode prog_13_method_45_code 19 = .ok (.iaload, 1) ∧ lnkB 11 false 19 (.iaload, 1, 0, 0, 0, 0) = true := by decide +kernel
theorem ck_122_20 : decode prog_13_method_45_code 20 = .ok (.goto 4, 3) ∧ lnkB 11 false 20 (.goto 4, 3, 24, 0, 0, 0) = true := by decide +kernel
theorem ck_122_24 : decode prog_13_method_45_code 24 = .ok (.ireturn, 1) ∧ lnkB 11 false 24 (.ireturn, 1, 0, 0, 0, 0) = true := by decide +kernel
abbrev RU_122 (d : Nat) (cp : Nat × Nat) (Post : Option Value → Sto → Prop) : PP := Runs (Ex d) prog_13_method_45_code 11 false 2 (some .int) none cp Post
theorem en_122 {d : Nat} {As : List Value} {S : Sto} {mc ms : Nat} {Post : Option Value → Sto → Prop} (hc : cats As ≤ 2) (h : RU_122 d (mc, ms) Post 0 (lv_args 0 As) [] S 0 0) : Ex (d + 1) 122 As S mc ms Post := ⟨by decide, hc, h⟩
def sg_123_0 : List RI := [(.iload_n 1, 1, 0, 0, 0, 0), (.iconst 0, 1, 0, 0, 0, 0), (.aload_n 0, 1, 0, 0, 0, 0), (.getfield 254, 3, 11, 51, 0, 0), (.iconst 1, 1, 0, 0, 0, 1), (.isub, 1, 0, 0, 0, 0)]
theorem sk_123_0 : segB 11 false prog_13_method_46_code 0 sg_123_0 = true := by decide +kernel
def sg_123_14 : List RI := [(.iconst (-1), 1, 0, 0, 0, -1)]
theorem sk_123_14 : segB 11 false prog_13_method_46_code 14 sg_123_14 = true := by decide +kernel
def sg_123_16 : List RI := [(.iload_n 2, 1, 0, 0, 0, 0), (.bipush 10, 2, 0, 0, 0, 10), (.bipush 9, 2, 0, 0, 0, 9), (.aload_n 0, 1, 0, 0, 0, 0), (.getfield 142, 3, 11, 55, 2, 0), (.iload_n 1, 1, 0, 0, 0, 0)]
theorem sk_123_16 : segB 11 false prog_13_method_46_code 16 sg_123_16 = true := by decide +kernel
def sg_123_27 : List RI := [(.iadd, 1, 0, 0, 0, 0)]
theorem sk_123_27 : segB 11 false prog_13_method_46_code 27 sg_123_27 = true := by decide +kernel
def sg_123_34 : List RI := [(.aload_n 0, 1, 0, 0, 0, 0), (.getfield 148, 3, 11, 57, 2, 0), (.bipush 8, 2, 0, 0, 0, 8), (.iload_n 1, 1, 0, 0, 0, 0), (.imul, 1, 0, 0, 0, 0), (.iload_n 2, 1, 0, 0, 0, 0), (.iadd, 1, 0, 0, 0, 0), (.bipush 10, 2, 0, 0, 0, 10), (.isub, 1, 0, 0, 0, 0)]
theorem sk_123_34 : segB 11 false prog_13_method_46_code 34 sg_123_34 = true := by decide +kernel
def sg_123_49 : List RI := [(.iload_n 2, 1, 0, 0, 0, 0)]
theorem sk_123_49 : segB 11 false prog_13_method_46_code 49 sg_123_49 = true := by decide +kernel
def sg_123_84 : List RI := [(.aload_n 0, 1, 0, 0, 0, 0), (.getfield 133, 3, 11, 52, 2, 0), (.iload_n 1, 1, 0, 0, 0, 0)]
theorem sk_123_84 : segB 11 false prog_13_method_46_code 84 sg_123_84 = true := by decide +kernel
def sg_123_91 : List RI := [(.aload_n 0, 1, 0, 0, 0, 0), (.getfield 136, 3, 11, 53, 2, 0), (.iload_n 1, 1, 0, 0, 0, 0)]
theorem sk_123_91 : segB 11 false prog_13_method_46_code 91 sg_123_91 = true := by decide +kernel
def sg_123_98 : List RI := [(.aload_n 0, 1, 0, 0, 0, 0), (.getfield 139, 3, 11, 54, 2, 0), (.iload_n 1, 1, 0, 0, 0, 0)]
theorem sk_123_98 : segB 11 false prog_13_method_46_code 98 sg_123_98 = true := by decide +kernel
def sg_123_105 : List RI := [(.aload_n 0, 1, 0, 0, 0, 0), (.getfield 142, 3, 11, 55, 2, 0), (.iload_n 1, 1, 0, 0, 0, 0)]
theorem sk_123_105 : segB 11 false prog_13_method_46_code 105 sg_123_105 = true := by decide +kernel
def sg_123_112 : List RI := [(.aload_n 0, 1, 0, 0, 0, 0), (.getfield 145, 3, 11, 56, 2, 0), (.iload_n 1, 1, 0, 0, 0, 0)]
theorem sk_123_112 : segB 11 false prog_13_method_46_code 112 sg_123_112 = true := by decide +kernel
def sg_123_119 : List RI := [(.iconst (-1), 1, 0, 0, 0, -1)]
theorem sk_123_119 : segB 11 false prog_13_method_46_code 119 sg_123_119 = true := by decide +kernel
theorem ck_123_8 : decode prog_13_method_46_code 8 = .ok (.invokestatic 162, 3) ∧ lnkB 11 false 8 (.invokestatic 162, 3, 81, 0, 0, 0) = true := by decide +kernel
theorem ck_123_11 : decode prog_13_method_46_code 11 = .ok (.ifCond .ne 5, 3) ∧ lnkB 11 false 11 (.ifCond .ne 5, 3, 16, 0, 0, 0) = true := by decide +kernel
theorem ck_123_15 : decode prog_13_method_46_code 15 = .ok (.ireturn, 1) ∧ lnkB 11 false 15 (.ireturn, 1, 0, 0, 0, 0) = true := by decide +kernel
theorem ca_123_26 : decode prog_13_method_46_code 26 = .ok (.iaload, 1) ∧ lnkB 11 false 26 (.iaload, 1, 0, 0, 0, 0) = true := by decide +kernel
theorem ck_123_28 : decode prog_13_method_46_code 28 = .ok (.invokestatic 162, 3) ∧ lnkB 11 false 28 (.invokestatic 162, 3, 81, 0, 0, 0) = true := by decide +kernel
theorem ck_123_31 : decode prog_13_method_46_code 31 = .ok (.ifCond .eq 18, 3) ∧ lnkB 11 false 31 (.ifCond .eq 18, 3, 49, 0, 0, 0) = true := by decide +kernel
theorem ca_123_47 : decode prog_13_method_46_code 47 = .ok (.iaload, 1) ∧ lnkB 11 false 47 (.iaload, 1, 0, 0, 0, 0) = true := by decide +kernel
theorem ck_123_48 : decode prog_13_method_46_code 48 = .ok (.ireturn, 1) ∧ lnkB 11 false 48 (.ireturn, 1, 0, 0, 0, 0) = true := by decide +kernel
theorem ck_123_50 : decode prog_13_method_46_code 50 = .ok (.tableswitch 69 0 4 #[34, 41, 48, 55, 62], 34) ∧ lnkB 11 false 50 (.tableswitch 69 0 4 #[34, 41, 48, 55, 62], 34, 0, 0, 0, 0) = true := by decide +kernel
theorem ca_123_89 : decode prog_13_method_46_code 89 = .ok (.iaload, 1) ∧ lnkB 11 false 89 (.iaload, 1, 0, 0, 0, 0) = true := by decide +kernel
theorem ck_123_90 : decode prog_13_method_46_code 90 = .ok (.ireturn, 1) ∧ lnkB 11 false 90 (.ireturn, 1, 0, 0, 0, 0) = true := by decide +kernel
theorem ca_123_96 : decode prog_13_method_46_code 96 = .ok (.iaload, 1) ∧ lnkB 11 false 96 (.iaload, 1, 0, 0, 0, 0) = true := by decide +kernel
theorem ck_123_97 : decode prog_13_method_46_code 97 = .ok (.ireturn, 1) ∧ lnkB 11 false 97 (.ireturn, 1, 0, 0, 0, 0) = true := by decide +kernel
theorem ca_123_103 : decode prog_13_method_46_code 103 = .ok (.iaload, 1) ∧ lnkB 11 false 103 (.iaload, 1, 0, 0, 0, 0) = true := by decide +kernel
theorem ck_123_104 : decode prog_13_method_46_code 104 = .ok (.ireturn, 1) ∧ lnkB 11 false 104 (.ireturn, 1, 0, 0, 0, 0) = true := by decide +kernel
theorem ca_123_110 : decode prog_13_method_46_code 110 = .ok (.iaload, 1) ∧ lnkB 11 false 110 (.iaload, 1, 0, 0, 0, 0) = true := by decide +kernel
theorem ck_123_111 : decode prog_13_method_46_code 111 = .ok (.ireturn, 1) ∧ lnkB 11 false 111 (.ireturn, 1, 0, 0, 0, 0) = true := by decide +kernel
theorem ca_123_117 : decode prog_13_method_46_code 117 = .ok (.iaload, 1) ∧ lnkB 11 false 117 (.iaload, 1, 0, 0, 0, 0) = true := by decide +kernel
theorem ck_123_118 : decode prog_13_method_46_code 118 = .ok (.ireturn, 1) ∧ lnkB 11 false 118 (.ireturn, 1, 0, 0, 0, 0) = true := by decide +kernel
theorem ck_123_120 : decode prog_13_method_46_code 120 = .ok (.ireturn, 1) ∧ lnkB 11 false 120 (.ireturn, 1, 0, 0, 0, 0) = true := by decide +kernel
abbrev RU_123 (d : Nat) (cp : Nat × Nat) (Post : Option Value → Sto → Prop) : PP := Runs (Ex d) prog_13_method_46_code 11 false 3 (some .int) none cp Post
theorem en_123 {d : Nat} {As : List Value} {S : Sto} {mc ms : Nat} {Post : Option Value → Sto → Prop} (hc : cats As ≤ 3) (h : RU_123 d (mc, ms) Post 0 (lv_args 0 As) [] S 0 0) : Ex (d + 1) 123 As S mc ms Post := ⟨by decide, hc, h⟩
def sg_124_0 : List RI := [(.iload_n 1, 1, 0, 0, 0, 0), (.iconst 0, 1, 0, 0, 0, 0), (.iconst 4, 1, 0, 0, 0, 4)]
theorem sk_124_0 : segB 11 false prog_13_method_47_code 0 sg_124_0 = true := by decide +kernel
def sg_124_9 : List RI := [(.iconst (-1), 1, 0, 0, 0, -1)]
theorem sk_124_9 : segB 11 false prog_13_method_47_code 9 sg_124_9 = true := by decide +kernel
def sg_124_11 : List RI := [(.iload_n 2, 1, 0, 0, 0, 0)]
theorem sk_124_11 : segB 11 false prog_13_method_47_code 11 sg_124_11 = true := by decide +kernel
def sg_124_40 : List RI := [(.aload_n 0, 1, 0, 0, 0, 0), (.getfield 28, 3, 11, 8, 2, 0), (.iload_n 1, 1, 0, 0, 0, 0)]
theorem sk_124_40 : segB 11 false prog_13_method_47_code 40 sg_124_40 = true := by decide +kernel
def sg_124_46 : List RI := [(.iconst (-1), 1, 0, 0, 0, -1)]
theorem sk_124_46 : segB 11 false prog_13_method_47_code 46 sg_124_46 = true := by decide +kernel
def sg_124_50 : List RI := [(.iconst 0, 1, 0, 0, 0, 0)]
theorem sk_124_50 : segB 11 false prog_13_method_47_code 50 sg_124_50 = true := by decide +kernel
def sg_124_54 : List RI := [(.aload_n 0, 1, 0, 0, 0, 0), (.getfield 176, 3, 11, 1, 0, 0), (.aload_n 0, 1, 0, 0, 0, 0), (.getfield 28, 3, 11, 8, 2, 0), (.iload_n 1, 1, 0, 0, 0, 0)]
theorem sk_124_54 : segB 11 false prog_13_method_47_code 54 sg_124_54 = true := by decide +kernel
def sg_124_67 : List RI := [(.iconst 1, 1, 0, 0, 0, 1)]
theorem sk_124_67 : segB 11 false prog_13_method_47_code 67 sg_124_67 = true := by decide +kernel
def sg_124_71 : List RI := [(.iconst 2, 1, 0, 0, 0, 2)]
theorem sk_124_71 : segB 11 false prog_13_method_47_code 71 sg_124_71 = true := by decide +kernel
def sg_124_73 : List RI := [(.aload_n 0, 1, 0, 0, 0, 0), (.getfield 25, 3, 11, 7, 2, 0), (.iload_n 1, 1, 0, 0, 0, 0)]
theorem sk_124_73 : segB 11 false prog_13_method_47_code 73 sg_124_73 = true := by decide +kernel
def sg_124_80 : List RI := [(.aload_n 0, 1, 0, 0, 0, 0), (.getfield 28, 3, 11, 8, 2, 0), (.iload_n 1, 1, 0, 0, 0, 0)]
theorem sk_124_80 : segB 11 false prog_13_method_47_code 80 sg_124_80 = true := by decide +kernel
def sg_124_87 : List RI := [(.iconst (-1), 1, 0, 0, 0, -1)]
theorem sk_124_87 : segB 11 false prog_13_method_47_code 87 sg_124_87 = true := by decide +kernel
theorem ck_124_3 : decode prog_13_method_47_code 3 = .ok (.invokestatic 162, 3) ∧ lnkB 11 false 3 (.invokestatic 162, 3, 81, 0, 0, 0) = true := by decide +kernel
theorem ck_124_6 : decode prog_13_method_47_code 6 = .ok (.ifCond .ne 5, 3) ∧ lnkB 11 false 6 (.ifCond .ne 5, 3, 11, 0, 0, 0) = true := by decide +kernel
theorem ck_124_10 : decode prog_13_method_47_code 10 = .ok (.ireturn, 1) ∧ lnkB 11 false 10 (.ireturn, 1, 0, 0, 0, 0) = true := by decide +kernel
theorem ck_124_12 : decode prog_13_method_47_code 12 = .ok (.tableswitch 75 0 2 #[28, 61, 68], 28) ∧ lnkB 11 false 12 (.tableswitch 75 0 2 #[28, 61, 68], 28, 0, 0, 0, 0) = true := by decide +kernel
theorem ca_124_45 : decode prog_13_method_47_code 45 = .ok (.iaload, 1) ∧ lnkB 11 false 45 (.iaload, 1, 0, 0, 0, 0) = true := by decide +kernel
theorem ck_124_47 : decode prog_13_method_47_code 47 = .ok (.if_icmp .ne 7, 3) ∧ lnkB 11 false 47 (.if_icmp .ne 7, 3, 54, 0, 0, 0) = true := by decide +kernel
theorem ck_124_51 : decode prog_13_method_47_code 51 = .ok (.goto 21, 3) ∧ lnkB 11 false 51 (.goto 21, 3, 72, 0, 0, 0) = true := by decide +kernel
theorem ca_124_63 : decode prog_13_method_47_code 63 = .ok (.iaload, 1) ∧ lnkB 11 false 63 (.iaload, 1, 0, 0, 0, 0) = true := by decide +kernel
theorem ck_124_64 : decode prog_13_method_47_code 64 = .ok (.if_icmp .ge 7, 3) ∧ lnkB 11 false 64 (.if_icmp .ge 7, 3, 71, 0, 0, 0) = true := by decide +kernel
theorem ck_124_68 : decode prog_13_method_47_code 68 = .ok (.goto 4, 3) ∧ lnkB 11 false 68 (.goto 4, 3, 72, 0, 0, 0) = true := by decide +kernel
theorem ck_124_72 : decode prog_13_method_47_code 72 = .ok (.ireturn, 1) ∧ lnkB 11 false 72 (.ireturn, 1, 0, 0, 0, 0) = true := by decide +kernel
theorem ca_124_78 : decode prog_13_method_47_code 78 = .ok (.iaload, 1) ∧ lnkB 11 false 78 (.iaload, 1, 0, 0, 0, 0) = true := by decide +kernel
theorem ck_124_79 : decode prog_13_method_47_code 79 = .ok (.ireturn, 1) ∧ lnkB 11 false 79 (.ireturn, 1, 0, 0, 0, 0) = true := by decide +kernel
theorem ca_124_85 : decode prog_13_method_47_code 85 = .ok (.iaload, 1) ∧ lnkB 11 false 85 (.iaload, 1, 0, 0, 0, 0) = true := by decide +kernel
theorem ck_124_86 : decode prog_13_method_47_code 86 = .ok (.ireturn, 1) ∧ lnkB 11 false 86 (.ireturn, 1, 0, 0, 0, 0) = true := by decide +kernel
theorem ck_124_88 : decode prog_13_method_47_code 88 = .ok (.ireturn, 1) ∧ lnkB 11 false 88 (.ireturn, 1, 0, 0, 0, 0) = true := by decide +kernel
abbrev RU_124 (d : Nat) (cp : Nat × Nat) (Post : Option Value → Sto → Prop) : PP := Runs (Ex d) prog_13_method_47_code 11 false 3 (some .int) none cp Post
theorem en_124 {d : Nat} {As : List Value} {S : Sto} {mc ms : Nat} {Post : Option Value → Sto → Prop} (hc : cats As ≤ 3) (h : RU_124 d (mc, ms) Post 0 (lv_args 0 As) [] S 0 0) : Ex (d + 1) 124 As S mc ms Post := ⟨by decide, hc, h⟩
def sg_125_0 : List RI := [(.iload_n 1, 1, 0, 0, 0, 0), (.iload_n 2, 1, 0, 0, 0, 0)]
theorem sk_125_0 : segB 11 false prog_13_method_48_code 0 sg_125_0 = true := by decide +kernel
def sg_125_8 : List RI := [(.aload_n 0, 1, 0, 0, 0, 0), (.getfield 80, 3, 11, 26, 2, 0), (.bipush 32, 2, 0, 0, 0, 32), (.iload_n 1, 1, 0, 0, 0, 0), (.imul, 1, 0, 0, 0, 0), (.iload_n 2, 1, 0, 0, 0, 0), (.iadd, 1, 0, 0, 0, 0)]
theorem sk_125_8 : segB 11 false prog_13_method_48_code 8 sg_125_8 = true := by decide +kernel
def sg_125_19 : List RI := [(.aload_n 0, 1, 0, 0, 0, 0), (.getfield 176, 3, 11, 1, 0, 0)]
theorem sk_125_19 : segB 11 false prog_13_method_48_code 19 sg_125_19 = true := by decide +kernel
def sg_125_26 : List RI := [(.aload_n 0, 1, 0, 0, 0, 0), (.getfield 80, 3, 11, 26, 2, 0), (.bipush 32, 2, 0, 0, 0, 32), (.iload_n 1, 1, 0, 0, 0, 0), (.imul, 1, 0, 0, 0, 0), (.iload_n 2, 1, 0, 0, 0, 0), (.iadd, 1, 0, 0, 0, 0)]
theorem sk_125_26 : segB 11 false prog_13_method_48_code 26 sg_125_26 = true := by decide +kernel
def sg_125_40 : List RI := [(.iconst (-1), 1, 0, 0, 0, -1)]
theorem sk_125_40 : segB 11 false prog_13_method_48_code 40 sg_125_40 = true := by decide +kernel
theorem ck_125_2 : decode prog_13_method_48_code 2 = .ok (.invokestatic 170, 3) ∧ lnkB 11 false 2 (.invokestatic 170, 3, 86, 0, 0, 0) = true := by decide +kernel
theorem ck_125_5 : decode prog_13_method_48_code 5 = .ok (.ifCond .eq 35, 3) ∧ lnkB 11 false 5 (.ifCond .eq 35, 3, 40, 0, 0, 0) = true := by decide +kernel
theorem ca_125_18 : decode prog_13_method_48_code 18 = .ok (.iaload, 1) ∧ lnkB 11 false 18 (.iaload, 1, 0, 0, 0, 0) = true := by decide +kernel
theorem ck_125_23 : decode prog_13_method_48_code 23 = .ok (.if_icmp .le 17, 3) ∧ lnkB 11 false 23 (.if_icmp .le 17, 3, 40, 0, 0, 0) = true := by decide +kernel
theorem ca_125_36 : decode prog_13_method_48_code 36 = .ok (.iaload, 1) ∧ lnkB 11 false 36 (.iaload, 1, 0, 0, 0, 0) = true := by decide +kernel
theorem ck_125_37 : decode prog_13_method_48_code 37 = .ok (.goto 4, 3) ∧ lnkB 11 false 37 (.goto 4, 3, 41, 0, 0, 0) = true := by decide +kernel
theorem ck_125_41 : decode prog_13_method_48_code 41 = .ok (.ireturn, 1) ∧ lnkB 11 false 41 (.ireturn, 1, 0, 0, 0, 0) = true := by decide +kernel
abbrev RU_125 (d : Nat) (cp : Nat × Nat) (Post : Option Value → Sto → Prop) : PP := Runs (Ex d) prog_13_method_48_code 11 false 3 (some .int) none cp Post
theorem en_125 {d : Nat} {As : List Value} {S : Sto} {mc ms : Nat} {Post : Option Value → Sto → Prop} (hc : cats As ≤ 3) (h : RU_125 d (mc, ms) Post 0 (lv_args 0 As) [] S 0 0) : Ex (d + 1) 125 As S mc ms Post := ⟨by decide, hc, h⟩
def sg_126_0 : List RI := [(.iconst 0, 1, 0, 0, 0, 0), (.istore_n 2, 1, 0, 0, 0, 0), (.iload_n 1, 1, 0, 0, 0, 0), (.bipush 10, 2, 0, 0, 0, 10), (.bipush 13, 2, 0, 0, 0, 13)]
theorem sk_126_0 : segB 11 false prog_13_method_49_code 0 sg_126_0 = true := by decide +kernel
def sg_126_13 : List RI := [(.aload_n 0, 1, 0, 0, 0, 0), (.getfield 92, 3, 11, 30, 2, 0), (.iload_n 1, 1, 0, 0, 0, 0), (.bipush 10, 2, 0, 0, 0, 10), (.isub, 1, 0, 0, 0, 0)]
theorem sk_126_13 : segB 11 false prog_13_method_49_code 13 sg_126_13 = true := by decide +kernel
def sg_126_23 : List RI := [(.iload_n 1, 1, 0, 0, 0, 0)]
theorem sk_126_23 : segB 11 false prog_13_method_49_code 23 sg_126_23 = true := by decide +kernel
def sg_126_68 : List RI := [(.aload_n 0, 1, 0, 0, 0, 0), (.getfield 176, 3, 11, 1, 0, 0)]
theorem sk_126_68 : segB 11 false prog_13_method_49_code 68 sg_126_68 = true := by decide +kernel
def sg_126_73 : List RI := [(.aload_n 0, 1, 0, 0, 0, 0), (.getfield 183, 3, 11, 32, 0, 0)]
theorem sk_126_73 : segB 11 false prog_13_method_49_code 73 sg_126_73 = true := by decide +kernel
def sg_126_78 : List RI := [(.aload_n 0, 1, 0, 0, 0, 0), (.getfield 254, 3, 11, 51, 0, 0)]
theorem sk_126_78 : segB 11 false prog_13_method_49_code 78 sg_126_78 = true := by decide +kernel
def sg_126_83 : List RI := [(.aload_n 0, 1, 0, 0, 0, 0), (.getfield 279, 3, 11, 59, 0, 0)]
theorem sk_126_83 : segB 11 false prog_13_method_49_code 83 sg_126_83 = true := by decide +kernel
def sg_126_88 : List RI := [(.aload_n 0, 1, 0, 0, 0, 0), (.getfield 232, 3, 11, 50, 0, 0)]
theorem sk_126_88 : segB 11 false prog_13_method_49_code 88 sg_126_88 = true := by decide +kernel
def sg_126_93 : List RI := [(.iconst 0, 1, 0, 0, 0, 0), (.istore_n 3, 1, 0, 0, 0, 0)]
theorem sk_126_93 : segB 11 false prog_13_method_49_code 93 sg_126_93 = true := by decide +kernel
def sg_126_95 : List RI := [(.iload_n 3, 1, 0, 0, 0, 0), (.sipush 192, 3, 0, 0, 0, 192)]
theorem sk_126_95 : segB 11 false prog_13_method_49_code 95 sg_126_95 = true := by decide +kernel
def sg_126_102 : List RI := [(.iload_n 2, 1, 0, 0, 0, 0), (.aload_n 0, 1, 0, 0, 0, 0), (.getfield 121, 3, 11, 44, 2, 0), (.iload_n 3, 1, 0, 0, 0, 0)]
theorem sk_126_102 : segB 11 false prog_13_method_49_code 102 sg_126_102 = true := by decide +kernel
def sg_126_109 : List RI := [(.iconst 4, 1, 0, 0, 0, 4)]
theorem sk_126_109 : segB 11 false prog_13_method_49_code 109 sg_126_109 = true := by decide +kernel
def sg_126_113 : List RI := [(.iconst 1, 1, 0, 0, 0, 1)]
theorem sk_126_113 : segB 11 false prog_13_method_49_code 113 sg_126_113 = true := by decide +kernel
def sg_126_117 : List RI := [(.iconst 0, 1, 0, 0, 0, 0)]
theorem sk_126_117 : segB 11 false prog_13_method_49_code 117 sg_126_117 = true := by decide +kernel
def sg_126_118 : List RI := [(.iadd, 1, 0, 0, 0, 0), (.istore_n 2, 1, 0, 0, 0, 0), (.iinc 3 1, 3, 0, 0, 0, 1)]
theorem sk_126_118 : segB 11 false prog_13_method_49_code 118 sg_126_118 = true := by decide +kernel
def sg_126_126 : List RI := [(.iload_n 2, 1, 0, 0, 0, 0)]
theorem sk_126_126 : segB 11 false prog_13_method_49_code 126 sg_126_126 = true := by decide +kernel
def sg_126_128 : List RI := [(.aload_n 0, 1, 0, 0, 0, 0), (.getfield 166, 3, 11, 10, 0, 0)]
theorem sk_126_128 : segB 11 false prog_13_method_49_code 128 sg_126_128 = true := by decide +kernel
def sg_126_133 : List RI := [(.iconst (-1), 1, 0, 0, 0, -1)]
theorem sk_126_133 : segB 11 false prog_13_method_49_code 133 sg_126_133 = true := by decide +kernel
theorem ck_126_7 : decode prog_13_method_49_code 7 = .ok (.invokestatic 162, 3) ∧ lnkB 11 false 7 (.invokestatic 162, 3, 81, 0, 0, 0) = true := by decide +kernel
theorem ck_126_10 : decode prog_13_method_49_code 10 = .ok (.ifCond .eq 13, 3) ∧ lnkB 11 false 10 (.ifCond .eq 13, 3, 23, 0, 0, 0) = true := by decide +kernel
theorem ca_126_21 : decode prog_13_method_49_code 21 = .ok (.iaload, 1) ∧ lnkB 11 false 21 (.iaload, 1, 0, 0, 0, 0) = true := by decide +kernel
theorem ck_126_22 : decode prog_13_method_49_code 22 = .ok (.ireturn, 1) ∧ lnkB 11 false 22 (.ireturn, 1, 0, 0, 0, 0) = true := by decide +kernel
theorem ck_126_24 : decode prog_13_method_49_code 24 = .ok (.tableswitch 109 0 6 #[44, 49, 54, 59, 64, 69, 104], 44) ∧ lnkB 11 false 24 (.tableswitch 109 0 6 #[44, 49, 54, 59, 64, 69, 104], 44, 0, 0, 0, 0) = true := by decide +kernel
theorem ck_126_72 : decode prog_13_method_49_code 72 = .ok (.ireturn, 1) ∧ lnkB 11 false 72 (.ireturn, 1, 0, 0, 0, 0) = true := by decide +kernel
theorem ck_126_77 : decode prog_13_method_49_code 77 = .ok (.ireturn, 1) ∧ lnkB 11 false 77 (.ireturn, 1, 0, 0, 0, 0) = true := by decide +kernel
theorem ck_126_82 : decode prog_13_method_49_code 82 = .ok (.ireturn, 1) ∧ lnkB 11 false 82 (.ireturn, 1, 0, 0, 0, 0) = true := by decide +kernel
theorem ck_126_87 : decode prog_13_method_49_code 87 = .ok (.ireturn, 1) ∧ lnkB 11 false 87 (.ireturn, 1, 0, 0, 0, 0) = true := by decide +kernel
theorem ck_126_92 : decode prog_13_method_49_code 92 = .ok (.ireturn, 1) ∧ lnkB 11 false 92 (.ireturn, 1, 0, 0, 0, 0) = true := by decide +kernel
theorem ck_126_99 : decode prog_13_method_49_code 99 = .ok (.if_icmp .ge 27, 3) ∧ lnkB 11 false 99 (.if_icmp .ge 27, 3, 126, 0, 0, 0) = true := by decide +kernel
theorem ca_126_108 : decode prog_13_method_49_code 108 = .ok (.iaload, 1) ∧ lnkB 11 false 108 (.iaload, 1, 0, 0, 0, 0) = true := by decide +kernel
theorem ck_126_110 : decode prog_13_method_49_code 110 = .ok (.if_icmp .ne 7, 3) ∧ lnkB 11 false 110 (.if_icmp .ne 7, 3, 117, 0, 0, 0) = true := by decide +kernel
theorem ck_126_114 : decode prog_13_method_49_code 114 = .ok (.goto 4, 3) ∧ lnkB 11 false 114 (.goto 4, 3, 118, 0, 0, 0) = true := by decide +kernel
theorem ck_126_123 : decode prog_13_method_49_code 123 = .ok (.goto (-28), 3) ∧ lnkB 11 false 123 (.goto (-28), 3, 95, 0, 0, 0) = true := by decide +kernel
theorem ck_126_127 : decode prog_13_method_49_code 127 = .ok (.ireturn, 1) ∧ lnkB 11 false 127 (.ireturn, 1, 0, 0, 0, 0) = true := by decide +kernel
theorem ck_126_132 : decode prog_13_method_49_code 132 = .ok (.ireturn, 1) ∧ lnkB 11 false 132 (.ireturn, 1, 0, 0, 0, 0) = true := by decide +kernel
theorem ck_126_134 : decode prog_13_method_49_code 134 = .ok (.ireturn, 1) ∧ lnkB 11 false 134 (.ireturn, 1, 0, 0, 0, 0) = true := by decide +kernel
abbrev RU_126 (d : Nat) (cp : Nat × Nat) (Post : Option Value → Sto → Prop) : PP := Runs (Ex d) prog_13_method_49_code 11 false 4 (some .int) none cp Post
theorem en_126 {d : Nat} {As : List Value} {S : Sto} {mc ms : Nat} {Post : Option Value → Sto → Prop} (hc : cats As ≤ 4) (h : RU_126 d (mc, ms) Post 0 (lv_args 0 As) [] S 0 0) : Ex (d + 1) 126 As S mc ms Post := ⟨by decide, hc, h⟩
