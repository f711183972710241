/-! ===== the code: segments, control instructions, entries of methods 0 to 56 ===== -/
def sg_0_0 : List RI := [(.aload_n 0, 1, 0, 0, 0, 0), (.invokespecial 3, 3, 0, 4, 0, 0), (.aload_n 0, 1, 0, 0, 0, 0), (.sipush 192, 3, 0, 0, 0, 192), (.newarray .int, 2, 13, 0, 0, 0), (.putfield 9, 3, 0, 0, 2, 0), (.aload_n 0, 1, 0, 0, 0, 0), (.sipush 192, 3, 0, 0, 0, 192), (.newarray .int, 2, 13, 0, 0, 0), (.putfield 15, 3, 0, 1, 2, 0), (.aload_n 0, 1, 0, 0, 0, 0), (.sipush 192, 3, 0, 0, 0, 192), (.newarray .int, 2, 13, 0, 0, 0), (.putfield 18, 3, 0, 2, 2, 0), (.aload_n 0, 1, 0, 0, 0, 0), (.sipush 192, 3, 0, 0, 0, 192), (.newarray .int, 2, 13, 0, 0, 0), (.putfield 21, 3, 0, 3, 2, 0), (.aload_n 0, 1, 0, 0, 0, 0), (.sipush 192, 3, 0, 0, 0, 192), (.newarray .int, 2, 13, 0, 0, 0), (.putfield 24, 3, 0, 4, 2, 0), (.aload_n 0, 1, 0, 0, 0, 0), (.sipush 192, 3, 0, 0, 0, 192), (.newarray .int, 2, 13, 0, 0, 0), (.putfield 27, 3, 0, 7, 2, 0), (.aload_n 0, 1, 0, 0, 0, 0), (.sipush 192, 3, 0, 0, 0, 192), (.newarray .int, 2, 13, 0, 0, 0), (.putfield 30, 3, 0, 8, 2, 0)]
theorem sk_0_0 : segB 0 true prog_2_method_1_code 0 sg_0_0 = true := by decide +kernel
theorem ck_0_67 : decode prog_2_method_1_code 67 = .ok (.return_, 1) ∧ lnkB 0 true 67 (.return_, 1, 0, 0, 0, 0) = true := by decide +kernel
abbrev RU_0 (d : Nat) (cp : Nat × Nat) (Post : Option Value → Sto → Prop) : PP := Runs (Ex d) prog_2_method_1_code 0 true 1 none none cp Post
theorem en_0 {d : Nat} {As : List Value} {S : Sto} {mc ms : Nat} {Post : Option Value → Sto → Prop} (hc : cats As ≤ 1) (h : RU_0 d (mc, ms) Post 0 (lv_args 0 As) [] S 0 0) : Ex (d + 1) 0 As S mc ms Post := ⟨by decide, hc, h⟩
def sg_1_0 : List RI := [(.aload_n 0, 1, 0, 0, 0, 0), (.iconst 0, 1, 0, 0, 0, 0), (.putfield 33, 3, 0, 5, 0, 0), (.aload_n 0, 1, 0, 0, 0, 0), (.iconst 0, 1, 0, 0, 0, 0), (.putfield 37, 3, 0, 6, 0, 0), (.aload_n 0, 1, 0, 0, 0, 0), (.iconst 0, 1, 0, 0, 0, 0), (.putfield 40, 3, 0, 9, 0, 0)]
theorem sk_1_0 : segB 0 false prog_2_method_2_code 0 sg_1_0 = true := by decide +kernel
theorem ck_1_15 : decode prog_2_method_2_code 15 = .ok (.return_, 1) ∧ lnkB 0 false 15 (.return_, 1, 0, 0, 0, 0) = true := by decide +kernel
abbrev RU_1 (d : Nat) (cp : Nat × Nat) (Post : Option Value → Sto → Prop) : PP := Runs (Ex d) prog_2_method_2_code 0 false 1 none none cp Post
theorem en_1 {d : Nat} {As : List Value} {S : Sto} {mc ms : Nat} {Post : Option Value → Sto → Prop} (hc : cats As ≤ 1) (h : RU_1 d (mc, ms) Post 0 (lv_args 0 As) [] S 0 0) : Ex (d + 1) 1 As S mc ms Post := ⟨by decide, hc, h⟩
def sg_2_0 : List RI := [(.aload_n 0, 1, 0, 0, 0, 0), (.getfield 33, 3, 0, 5, 0, 0), (.sipush 192, 3, 0, 0, 0, 192)]
theorem sk_2_0 : segB 0 false prog_2_method_3_code 0 sg_2_0 = true := by decide +kernel
def sg_2_11 : List RI := [(.aload_n 0, 1, 0, 0, 0, 0), (.getfield 9, 3, 0, 0, 2, 0), (.aload_n 0, 1, 0, 0, 0, 0), (.getfield 33, 3, 0, 5, 0, 0), (.iload_n 1, 1, 0, 0, 0, 0)]
theorem sk_2_11 : segB 0 false prog_2_method_3_code 11 sg_2_11 = true := by decide +kernel
def sg_2_21 : List RI := [(.aload_n 0, 1, 0, 0, 0, 0), (.getfield 15, 3, 0, 1, 2, 0), (.aload_n 0, 1, 0, 0, 0, 0), (.getfield 33, 3, 0, 5, 0, 0), (.iload_n 2, 1, 0, 0, 0, 0)]
theorem sk_2_21 : segB 0 false prog_2_method_3_code 21 sg_2_21 = true := by decide +kernel
def sg_2_31 : List RI := [(.aload_n 0, 1, 0, 0, 0, 0), (.getfield 18, 3, 0, 2, 2, 0), (.aload_n 0, 1, 0, 0, 0, 0), (.getfield 33, 3, 0, 5, 0, 0), (.iload_n 3, 1, 0, 0, 0, 0)]
theorem sk_2_31 : segB 0 false prog_2_method_3_code 31 sg_2_31 = true := by decide +kernel
def sg_2_41 : List RI := [(.aload_n 0, 1, 0, 0, 0, 0), (.getfield 21, 3, 0, 3, 2, 0), (.aload_n 0, 1, 0, 0, 0, 0), (.getfield 33, 3, 0, 5, 0, 0), (.iconst 0, 1, 0, 0, 0, 0)]
theorem sk_2_41 : segB 0 false prog_2_method_3_code 41 sg_2_41 = true := by decide +kernel
def sg_2_51 : List RI := [(.aload_n 0, 1, 0, 0, 0, 0), (.getfield 24, 3, 0, 4, 2, 0), (.aload_n 0, 1, 0, 0, 0, 0), (.getfield 33, 3, 0, 5, 0, 0), (.iconst 3, 1, 0, 0, 0, 3)]
theorem sk_2_51 : segB 0 false prog_2_method_3_code 51 sg_2_51 = true := by decide +kernel
def sg_2_61 : List RI := [(.aload_n 0, 1, 0, 0, 0, 0), (.getfield 27, 3, 0, 7, 2, 0), (.aload_n 0, 1, 0, 0, 0, 0), (.getfield 33, 3, 0, 5, 0, 0), (.aload_n 0, 1, 0, 0, 0, 0), (.getfield 40, 3, 0, 9, 0, 0)]
theorem sk_2_61 : segB 0 false prog_2_method_3_code 61 sg_2_61 = true := by decide +kernel
def sg_2_74 : List RI := [(.aload_n 0, 1, 0, 0, 0, 0), (.dup, 1, 0, 0, 0, 0), (.getfield 33, 3, 0, 5, 0, 0), (.iconst 1, 1, 0, 0, 0, 1), (.iadd, 1, 0, 0, 0, 0), (.putfield 33, 3, 0, 5, 0, 0)]
theorem sk_2_74 : segB 0 false prog_2_method_3_code 74 sg_2_74 = true := by decide +kernel
theorem ck_2_7 : decode prog_2_method_3_code 7 = .ok (.if_icmp .lt 4, 3) ∧ lnkB 0 false 7 (.if_icmp .lt 4, 3, 11, 0, 0, 0) = true := by decide +kernel
theorem ck_2_10 : decode prog_2_method_3_code 10 = .ok (.return_, 1) ∧ lnkB 0 false 10 (.return_, 1, 0, 0, 0, 0) = true := by decide +kernel
theorem ca_2_20 : decode prog_2_method_3_code 20 = .ok (.iastore, 1) ∧ lnkB 0 false 20 (.iastore, 1, 0, 0, 0, 0) = true := by decide +kernel
theorem ca_2_30 : decode prog_2_method_3_code 30 = .ok (.iastore, 1) ∧ lnkB 0 false 30 (.iastore, 1, 0, 0, 0, 0) = true := by decide +kernel
theorem ca_2_40 : decode prog_2_method_3_code 40 = .ok (.iastore, 1) ∧ lnkB 0 false 40 (.iastore, 1, 0, 0, 0, 0) = true := by decide +kernel
theorem ca_2_50 : decode prog_2_method_3_code 50 = .ok (.iastore, 1) ∧ lnkB 0 false 50 (.iastore, 1, 0, 0, 0, 0) = true := by decide +kernel
theorem ca_2_60 : decode prog_2_method_3_code 60 = .ok (.iastore, 1) ∧ lnkB 0 false 60 (.iastore, 1, 0, 0, 0, 0) = true := by decide +kernel
theorem ca_2_73 : decode prog_2_method_3_code 73 = .ok (.iastore, 1) ∧ lnkB 0 false 73 (.iastore, 1, 0, 0, 0, 0) = true := by decide +kernel
theorem ck_2_84 : decode prog_2_method_3_code 84 = .ok (.return_, 1) ∧ lnkB 0 false 84 (.return_, 1, 0, 0, 0, 0) = true := by decide +kernel
abbrev RU_2 (d : Nat) (cp : Nat × Nat) (Post : Option Value → Sto → Prop) : PP := Runs (Ex d) prog_2_method_3_code 0 false 4 none none cp Post
theorem en_2 {d : Nat} {As : List Value} {S : Sto} {mc ms : Nat} {Post : Option Value → Sto → Prop} (hc : cats As ≤ 4) (h : RU_2 d (mc, ms) Post 0 (lv_args 0 As) [] S 0 0) : Ex (d + 1) 2 As S mc ms Post := ⟨by decide, hc, h⟩
def sg_3_0 : List RI := [(.aload_n 0, 1, 0, 0, 0, 0), (.getfield 33, 3, 0, 5, 0, 0), (.iconst 1, 1, 0, 0, 0, 1)]
theorem sk_3_0 : segB 0 false prog_2_method_4_code 0 sg_3_0 = true := by decide +kernel
def sg_3_8 : List RI := [(.aload_n 0, 1, 0, 0, 0, 0), (.getfield 40, 3, 0, 9, 0, 0), (.sipush 192, 3, 0, 0, 0, 192)]
theorem sk_3_8 : segB 0 false prog_2_method_4_code 8 sg_3_8 = true := by decide +kernel
def sg_3_19 : List RI := [(.aload_n 0, 1, 0, 0, 0, 0), (.getfield 30, 3, 0, 8, 2, 0), (.aload_n 0, 1, 0, 0, 0, 0), (.getfield 40, 3, 0, 9, 0, 0), (.iload_n 1, 1, 0, 0, 0, 0)]
theorem sk_3_19 : segB 0 false prog_2_method_4_code 19 sg_3_19 = true := by decide +kernel
def sg_3_29 : List RI := [(.aload_n 0, 1, 0, 0, 0, 0), (.dup, 1, 0, 0, 0, 0), (.getfield 40, 3, 0, 9, 0, 0), (.iconst 1, 1, 0, 0, 0, 1), (.iadd, 1, 0, 0, 0, 0), (.putfield 40, 3, 0, 9, 0, 0), (.aload_n 0, 1, 0, 0, 0, 0), (.getfield 21, 3, 0, 3, 2, 0), (.aload_n 0, 1, 0, 0, 0, 0), (.getfield 33, 3, 0, 5, 0, 0), (.iconst 1, 1, 0, 0, 0, 1), (.isub, 1, 0, 0, 0, 0), (.dup2, 1, 0, 0, 0, 0)]
theorem sk_3_29 : segB 0 false prog_2_method_4_code 29 sg_3_29 = true := by decide +kernel
def sg_3_51 : List RI := [(.iconst 1, 1, 0, 0, 0, 1), (.iadd, 1, 0, 0, 0, 0)]
theorem sk_3_51 : segB 0 false prog_2_method_4_code 51 sg_3_51 = true := by decide +kernel
theorem ck_3_5 : decode prog_2_method_4_code 5 = .ok (.if_icmp .lt 13, 3) ∧ lnkB 0 false 5 (.if_icmp .lt 13, 3, 18, 0, 0, 0) = true := by decide +kernel
theorem ck_3_15 : decode prog_2_method_4_code 15 = .ok (.if_icmp .lt 4, 3) ∧ lnkB 0 false 15 (.if_icmp .lt 4, 3, 19, 0, 0, 0) = true := by decide +kernel
theorem ck_3_18 : decode prog_2_method_4_code 18 = .ok (.return_, 1) ∧ lnkB 0 false 18 (.return_, 1, 0, 0, 0, 0) = true := by decide +kernel
theorem ca_3_28 : decode prog_2_method_4_code 28 = .ok (.iastore, 1) ∧ lnkB 0 false 28 (.iastore, 1, 0, 0, 0, 0) = true := by decide +kernel
theorem ca_3_50 : decode prog_2_method_4_code 50 = .ok (.iaload, 1) ∧ lnkB 0 false 50 (.iaload, 1, 0, 0, 0, 0) = true := by decide +kernel
theorem ca_3_53 : decode prog_2_method_4_code 53 = .ok (.iastore, 1) ∧ lnkB 0 false 53 (.iastore, 1, 0, 0, 0, 0) = true := by decide +kernel
theorem ck_3_54 : decode prog_2_method_4_code 54 = .ok (.return_, 1) ∧ lnkB 0 false 54 (.return_, 1, 0, 0, 0, 0) = true := by decide +kernel
abbrev RU_3 (d : Nat) (cp : Nat × Nat) (Post : Option Value → Sto → Prop) : PP := Runs (Ex d) prog_2_method_4_code 0 false 2 none none cp Post
theorem en_3 {d : Nat} {As : List Value} {S : Sto} {mc ms : Nat} {Post : Option Value → Sto → Prop} (hc : cats As ≤ 2) (h : RU_3 d (mc, ms) Post 0 (lv_args 0 As) [] S 0 0) : Ex (d + 1) 3 As S mc ms Post := ⟨by decide, hc, h⟩
def sg_4_0 : List RI := [(.aload_n 0, 1, 0, 0, 0, 0), (.getfield 24, 3, 0, 4, 2, 0), (.iload_n 1, 1, 0, 0, 0, 0), (.iload_n 2, 1, 0, 0, 0, 0)]
theorem sk_4_0 : segB 0 false prog_2_method_6_code 0 sg_4_0 = true := by decide +kernel
def sg_4_7 : List RI := [(.aload_n 0, 1, 0, 0, 0, 0), (.getfield 37, 3, 0, 6, 0, 0), (.aload_n 0, 1, 0, 0, 0, 0), (.getfield 33, 3, 0, 5, 0, 0)]
theorem sk_4_7 : segB 0 false prog_2_method_6_code 7 sg_4_7 = true := by decide +kernel
def sg_4_18 : List RI := [(.aload_n 0, 1, 0, 0, 0, 0), (.getfield 24, 3, 0, 4, 2, 0), (.aload_n 0, 1, 0, 0, 0, 0), (.getfield 37, 3, 0, 6, 0, 0)]
theorem sk_4_18 : segB 0 false prog_2_method_6_code 18 sg_4_18 = true := by decide +kernel
def sg_4_27 : List RI := [(.iconst 3, 1, 0, 0, 0, 3)]
theorem sk_4_27 : segB 0 false prog_2_method_6_code 27 sg_4_27 = true := by decide +kernel
def sg_4_31 : List RI := [(.aload_n 0, 1, 0, 0, 0, 0), (.dup, 1, 0, 0, 0, 0), (.getfield 37, 3, 0, 6, 0, 0), (.iconst 1, 1, 0, 0, 0, 1), (.iadd, 1, 0, 0, 0, 0), (.putfield 37, 3, 0, 6, 0, 0)]
theorem sk_4_31 : segB 0 false prog_2_method_6_code 31 sg_4_31 = true := by decide +kernel
theorem ca_4_6 : decode prog_2_method_6_code 6 = .ok (.iastore, 1) ∧ lnkB 0 false 6 (.iastore, 1, 0, 0, 0, 0) = true := by decide +kernel
theorem ck_4_15 : decode prog_2_method_6_code 15 = .ok (.if_icmp .ge 29, 3) ∧ lnkB 0 false 15 (.if_icmp .ge 29, 3, 44, 0, 0, 0) = true := by decide +kernel
theorem ca_4_26 : decode prog_2_method_6_code 26 = .ok (.iaload, 1) ∧ lnkB 0 false 26 (.iaload, 1, 0, 0, 0, 0) = true := by decide +kernel
theorem ck_4_28 : decode prog_2_method_6_code 28 = .ok (.if_icmp .eq 16, 3) ∧ lnkB 0 false 28 (.if_icmp .eq 16, 3, 44, 0, 0, 0) = true := by decide +kernel
theorem ck_4_41 : decode prog_2_method_6_code 41 = .ok (.goto (-34), 3) ∧ lnkB 0 false 41 (.goto (-34), 3, 7, 0, 0, 0) = true := by decide +kernel
theorem ck_4_44 : decode prog_2_method_6_code 44 = .ok (.return_, 1) ∧ lnkB 0 false 44 (.return_, 1, 0, 0, 0, 0) = true := by decide +kernel
abbrev RU_4 (d : Nat) (cp : Nat × Nat) (Post : Option Value → Sto → Prop) : PP := Runs (Ex d) prog_2_method_6_code 0 false 3 none none cp Post
theorem en_4 {d : Nat} {As : List Value} {S : Sto} {mc ms : Nat} {Post : Option Value → Sto → Prop} (hc : cats As ≤ 3) (h : RU_4 d (mc, ms) Post 0 (lv_args 0 As) [] S 0 0) : Ex (d + 1) 4 As S mc ms Post := ⟨by decide, hc, h⟩
def sg_5_0 : List RI := [(.iload_n 2, 1, 0, 0, 0, 0), (.iconst 0, 1, 0, 0, 0, 0), (.aload_n 0, 1, 0, 0, 0, 0), (.getfield 21, 3, 0, 3, 2, 0), (.iload_n 1, 1, 0, 0, 0, 0)]
theorem sk_5_0 : segB 0 false prog_2_method_5_code 0 sg_5_0 = true := by decide +kernel
def sg_5_8 : List RI := [(.iconst 1, 1, 0, 0, 0, 1), (.isub, 1, 0, 0, 0, 0)]
theorem sk_5_8 : segB 0 false prog_2_method_5_code 8 sg_5_8 = true := by decide +kernel
def sg_5_16 : List RI := [(.aload_n 0, 1, 0, 0, 0, 0), (.getfield 30, 3, 0, 8, 2, 0), (.aload_n 0, 1, 0, 0, 0, 0), (.getfield 27, 3, 0, 7, 2, 0), (.iload_n 1, 1, 0, 0, 0, 0)]
theorem sk_5_16 : segB 0 false prog_2_method_5_code 16 sg_5_16 = true := by decide +kernel
def sg_5_26 : List RI := [(.iload_n 2, 1, 0, 0, 0, 0), (.iadd, 1, 0, 0, 0, 0)]
theorem sk_5_26 : segB 0 false prog_2_method_5_code 26 sg_5_26 = true := by decide +kernel
def sg_5_32 : List RI := [(.iconst (-1), 1, 0, 0, 0, -1)]
theorem sk_5_32 : segB 0 false prog_2_method_5_code 32 sg_5_32 = true := by decide +kernel
theorem ca_5_7 : decode prog_2_method_5_code 7 = .ok (.iaload, 1) ∧ lnkB 0 false 7 (.iaload, 1, 0, 0, 0, 0) = true := by decide +kernel
theorem ck_5_10 : decode prog_2_method_5_code 10 = .ok (.invokestatic 43, 3) ∧ lnkB 0 false 10 (.invokestatic 43, 3, 57, 1, 0, 0) = true := by decide +kernel
theorem ck_5_13 : decode prog_2_method_5_code 13 = .ok (.ifCond .eq 19, 3) ∧ lnkB 0 false 13 (.ifCond .eq 19, 3, 32, 0, 0, 0) = true := by decide +kernel
theorem ca_5_25 : decode prog_2_method_5_code 25 = .ok (.iaload, 1) ∧ lnkB 0 false 25 (.iaload, 1, 0, 0, 0, 0) = true := by decide +kernel
theorem ca_5_28 : decode prog_2_method_5_code 28 = .ok (.iaload, 1) ∧ lnkB 0 false 28 (.iaload, 1, 0, 0, 0, 0) = true := by decide +kernel
theorem ck_5_29 : decode prog_2_method_5_code 29 = .ok (.goto 4, 3) ∧ lnkB 0 false 29 (.goto 4, 3, 33, 0, 0, 0) = true := by decide +kernel
theorem ck_5_33 : decode prog_2_method_5_code 33 = .ok (.ireturn, 1) ∧ lnkB 0 false 33 (.ireturn, 1, 0, 0, 0, 0) = true := by decide +kernel
abbrev RU_5 (d : Nat) (cp : Nat × Nat) (Post : Option Value → Sto → Prop) : PP := Runs (Ex d) prog_2_method_5_code 0 false 3 (some .int) none cp Post
theorem en_5 {d : Nat} {As : List Value} {S : Sto} {mc ms : Nat} {Post : Option Value → Sto → Prop} (hc : cats As ≤ 3) (h : RU_5 d (mc, ms) Post 0 (lv_args 0 As) [] S 0 0) : Ex (d + 1) 5 As S mc ms Post := ⟨by decide, hc, h⟩
def sg_6_0 : List RI := [(.aload_n 0, 1, 0, 0, 0, 0), (.invokespecial 3, 3, 0, 4, 0, 0), (.aload_n 0, 1, 0, 0, 0, 0), (.iconst 4, 1, 0, 0, 0, 4), (.newarray .int, 2, 13, 0, 0, 0), (.putfield 9, 3, 1, 0, 2, 0), (.aload_n 0, 1, 0, 0, 0, 0), (.iconst 4, 1, 0, 0, 0, 4), (.newarray .int, 2, 13, 0, 0, 0), (.putfield 15, 3, 1, 1, 2, 0), (.aload_n 0, 1, 0, 0, 0, 0), (.iconst 4, 1, 0, 0, 0, 4), (.newarray .int, 2, 13, 0, 0, 0), (.putfield 18, 3, 1, 2, 2, 0), (.aload_n 0, 1, 0, 0, 0, 0), (.iconst 4, 1, 0, 0, 0, 4), (.newarray .int, 2, 13, 0, 0, 0), (.putfield 21, 3, 1, 3, 2, 0), (.aload_n 0, 1, 0, 0, 0, 0), (.getfield 9, 3, 1, 0, 2, 0), (.bipush 63, 2, 0, 0, 0, 63)]
theorem sk_6_0 : segB 1 true prog_3_method_1_code 0 sg_6_0 = true := by decide +kernel
def sg_6_41 : List RI := [(.aload_n 0, 1, 0, 0, 0, 0), (.getfield 15, 3, 1, 1, 2, 0), (.bipush 100, 2, 0, 0, 0, 100)]
theorem sk_6_41 : segB 1 true prog_3_method_1_code 41 sg_6_41 = true := by decide +kernel
def sg_6_50 : List RI := [(.aload_n 0, 1, 0, 0, 0, 0), (.getfield 18, 3, 1, 2, 2, 0), (.bipush 10, 2, 0, 0, 0, 10)]
theorem sk_6_50 : segB 1 true prog_3_method_1_code 50 sg_6_50 = true := by decide +kernel
def sg_6_59 : List RI := [(.aload_n 0, 1, 0, 0, 0, 0), (.getfield 21, 3, 1, 3, 2, 0), (.bipush 100, 2, 0, 0, 0, 100)]
theorem sk_6_59 : segB 1 true prog_3_method_1_code 59 sg_6_59 = true := by decide +kernel
theorem ck_6_38 : decode prog_3_method_1_code 38 = .ok (.invokestatic 24, 3) ∧ lnkB 1 true 38 (.invokestatic 24, 3, 130, 0, 0, 0) = true := by decide +kernel
theorem ck_6_47 : decode prog_3_method_1_code 47 = .ok (.invokestatic 24, 3) ∧ lnkB 1 true 47 (.invokestatic 24, 3, 130, 0, 0, 0) = true := by decide +kernel
theorem ck_6_56 : decode prog_3_method_1_code 56 = .ok (.invokestatic 24, 3) ∧ lnkB 1 true 56 (.invokestatic 24, 3, 130, 0, 0, 0) = true := by decide +kernel
theorem ck_6_65 : decode prog_3_method_1_code 65 = .ok (.invokestatic 24, 3) ∧ lnkB 1 true 65 (.invokestatic 24, 3, 130, 0, 0, 0) = true := by decide +kernel
theorem ck_6_68 : decode prog_3_method_1_code 68 = .ok (.return_, 1) ∧ lnkB 1 true 68 (.return_, 1, 0, 0, 0, 0) = true := by decide +kernel
abbrev RU_6 (d : Nat) (cp : Nat × Nat) (Post : Option Value → Sto → Prop) : PP := Runs (Ex d) prog_3_method_1_code 1 true 1 none none cp Post
theorem en_6 {d : Nat} {As : List Value} {S : Sto} {mc ms : Nat} {Post : Option Value → Sto → Prop} (hc : cats As ≤ 1) (h : RU_6 d (mc, ms) Post 0 (lv_args 0 As) [] S 0 0) : Ex (d + 1) 6 As S mc ms Post := ⟨by decide, hc, h⟩
def sg_7_0 : List RI := [(.aload_n 0, 1, 0, 0, 0, 0), (.dup, 1, 0, 0, 0, 0), (.getfield 29, 3, 1, 4, 0, 0), (.iload_n 1, 1, 0, 0, 0, 0), (.iadd, 1, 0, 0, 0, 0), (.putfield 29, 3, 1, 4, 0, 0), (.iconst 0, 1, 0, 0, 0, 0), (.istore_n 2, 1, 0, 0, 0, 0)]
theorem sk_7_0 : segB 1 false prog_3_method_2_code 0 sg_7_0 = true := by decide +kernel
def sg_7_12 : List RI := [(.iload_n 2, 1, 0, 0, 0, 0), (.iconst 4, 1, 0, 0, 0, 4)]
theorem sk_7_12 : segB 1 false prog_3_method_2_code 12 sg_7_12 = true := by decide +kernel
def sg_7_17 : List RI := [(.aload_n 0, 1, 0, 0, 0, 0), (.getfield 21, 3, 1, 3, 2, 0), (.iload_n 2, 1, 0, 0, 0, 0), (.aload_n 0, 1, 0, 0, 0, 0), (.getfield 15, 3, 1, 1, 2, 0), (.iload_n 2, 1, 0, 0, 0, 0)]
theorem sk_7_17 : segB 1 false prog_3_method_2_code 17 sg_7_17 = true := by decide +kernel
def sg_7_28 : List RI := [(.aload_n 0, 1, 0, 0, 0, 0), (.getfield 21, 3, 1, 3, 2, 0), (.iload_n 2, 1, 0, 0, 0, 0)]
theorem sk_7_28 : segB 1 false prog_3_method_2_code 28 sg_7_28 = true := by decide +kernel
def sg_7_34 : List RI := [(.iload_n 1, 1, 0, 0, 0, 0), (.aload_n 0, 1, 0, 0, 0, 0), (.getfield 18, 3, 1, 2, 2, 0), (.iload_n 2, 1, 0, 0, 0, 0)]
theorem sk_7_34 : segB 1 false prog_3_method_2_code 34 sg_7_34 = true := by decide +kernel
def sg_7_41 : List RI := [(.imul, 1, 0, 0, 0, 0), (.iadd, 1, 0, 0, 0, 0), (.invokestatic 33, 3, 0, 2, 0, 0)]
theorem sk_7_41 : segB 1 false prog_3_method_2_code 41 sg_7_41 = true := by decide +kernel
def sg_7_47 : List RI := [(.iinc 2 1, 3, 0, 0, 0, 1)]
theorem sk_7_47 : segB 1 false prog_3_method_2_code 47 sg_7_47 = true := by decide +kernel
theorem ck_7_14 : decode prog_3_method_2_code 14 = .ok (.if_icmp .ge 39, 3) ∧ lnkB 1 false 14 (.if_icmp .ge 39, 3, 53, 0, 0, 0) = true := by decide +kernel
theorem ca_7_27 : decode prog_3_method_2_code 27 = .ok (.iaload, 1) ∧ lnkB 1 false 27 (.iaload, 1, 0, 0, 0, 0) = true := by decide +kernel
theorem ca_7_33 : decode prog_3_method_2_code 33 = .ok (.iaload, 1) ∧ lnkB 1 false 33 (.iaload, 1, 0, 0, 0, 0) = true := by decide +kernel
theorem ca_7_40 : decode prog_3_method_2_code 40 = .ok (.iaload, 1) ∧ lnkB 1 false 40 (.iaload, 1, 0, 0, 0, 0) = true := by decide +kernel
theorem ca_7_46 : decode prog_3_method_2_code 46 = .ok (.iastore, 1) ∧ lnkB 1 false 46 (.iastore, 1, 0, 0, 0, 0) = true := by decide +kernel
theorem ck_7_50 : decode prog_3_method_2_code 50 = .ok (.goto (-38), 3) ∧ lnkB 1 false 50 (.goto (-38), 3, 12, 0, 0, 0) = true := by decide +kernel
theorem ck_7_53 : decode prog_3_method_2_code 53 = .ok (.return_, 1) ∧ lnkB 1 false 53 (.return_, 1, 0, 0, 0, 0) = true := by decide +kernel
abbrev RU_7 (d : Nat) (cp : Nat × Nat) (Post : Option Value → Sto → Prop) : PP := Runs (Ex d) prog_3_method_2_code 1 false 3 none none cp Post
theorem en_7 {d : Nat} {As : List Value} {S : Sto} {mc ms : Nat} {Post : Option Value → Sto → Prop} (hc : cats As ≤ 3) (h : RU_7 d (mc, ms) Post 0 (lv_args 0 As) [] S 0 0) : Ex (d + 1) 7 As S mc ms Post := ⟨by decide, hc, h⟩
def sg_8_0 : List RI := [(.aload_n 0, 1, 0, 0, 0, 0), (.invokespecial 3, 3, 0, 4, 0, 0), (.aload_n 0, 1, 0, 0, 0, 0), (.iconst 1, 1, 0, 0, 0, 1), (.putfield 9, 3, 2, 0, 0, 0), (.aload_n 0, 1, 0, 0, 0, 0), (.bipush 8, 2, 0, 0, 0, 8), (.putfield 15, 3, 2, 1, 0, 0), (.aload_n 0, 1, 0, 0, 0, 0), (.bipush 8, 2, 0, 0, 0, 8), (.putfield 18, 3, 2, 2, 0, 0), (.aload_n 0, 1, 0, 0, 0, 0), (.iconst 0, 1, 0, 0, 0, 0), (.putfield 21, 3, 2, 3, 0, 0), (.aload_n 0, 1, 0, 0, 0, 0), (.bipush 10, 2, 0, 0, 0, 10), (.putfield 24, 3, 2, 4, 0, 0), (.aload_n 0, 1, 0, 0, 0, 0), (.iconst 1, 1, 0, 0, 0, 1), (.putfield 27, 3, 2, 5, 0, 0), (.aload_n 0, 1, 0, 0, 0, 0), (.iconst 0, 1, 0, 0, 0, 0), (.putfield 31, 3, 2, 6, 0, 0), (.aload_n 0, 1, 0, 0, 0, 0), (.iconst 0, 1, 0, 0, 0, 0), (.putfield 34, 3, 2, 7, 0, 0), (.aload_n 0, 1, 0, 0, 0, 0), (.iconst (-1), 1, 0, 0, 0, -1), (.putfield 37, 3, 2, 8, 0, 0)]
theorem sk_8_0 : segB 2 true prog_4_method_1_code 0 sg_8_0 = true := by decide +kernel
theorem ck_8_52 : decode prog_4_method_1_code 52 = .ok (.return_, 1) ∧ lnkB 2 true 52 (.return_, 1, 0, 0, 0, 0) = true := by decide +kernel
abbrev RU_8 (d : Nat) (cp : Nat × Nat) (Post : Option Value → Sto → Prop) : PP := Runs (Ex d) prog_4_method_1_code 2 true 1 none none cp Post
theorem en_8 {d : Nat} {As : List Value} {S : Sto} {mc ms : Nat} {Post : Option Value → Sto → Prop} (hc : cats As ≤ 1) (h : RU_8 d (mc, ms) Post 0 (lv_args 0 As) [] S 0 0) : Ex (d + 1) 8 As S mc ms Post := ⟨by decide, hc, h⟩
def sg_9_0 : List RI := [(.aload_n 0, 1, 0, 0, 0, 0), (.iconst 1, 1, 0, 0, 0, 1), (.putfield 27, 3, 2, 5, 0, 0), (.aload_n 0, 1, 0, 0, 0, 0), (.iconst 0, 1, 0, 0, 0, 0), (.putfield 31, 3, 2, 6, 0, 0), (.aload_n 0, 1, 0, 0, 0, 0), (.iconst (-1), 1, 0, 0, 0, -1), (.putfield 37, 3, 2, 8, 0, 0)]
theorem sk_9_0 : segB 2 false prog_4_method_2_code 0 sg_9_0 = true := by decide +kernel
theorem ck_9_15 : decode prog_4_method_2_code 15 = .ok (.return_, 1) ∧ lnkB 2 false 15 (.return_, 1, 0, 0, 0, 0) = true := by decide +kernel
abbrev RU_9 (d : Nat) (cp : Nat × Nat) (Post : Option Value → Sto → Prop) : PP := Runs (Ex d) prog_4_method_2_code 2 false 1 none none cp Post
theorem en_9 {d : Nat} {As : List Value} {S : Sto} {mc ms : Nat} {Post : Option Value → Sto → Prop} (hc : cats As ≤ 1) (h : RU_9 d (mc, ms) Post 0 (lv_args 0 As) [] S 0 0) : Ex (d + 1) 9 As S mc ms Post := ⟨by decide, hc, h⟩
def sg_10_0 : List RI := [(.aload_n 0, 1, 0, 0, 0, 0), (.getfield 27, 3, 2, 5, 0, 0)]
theorem sk_10_0 : segB 2 false prog_4_method_4_code 0 sg_10_0 = true := by decide +kernel
def sg_10_7 : List RI := [(.iload_n 1, 1, 0, 0, 0, 0), (.aload_n 0, 1, 0, 0, 0, 0), (.getfield 34, 3, 2, 7, 0, 0)]
theorem sk_10_7 : segB 2 false prog_4_method_4_code 7 sg_10_7 = true := by decide +kernel
def sg_10_15 : List RI := [(.iconst 1, 1, 0, 0, 0, 1)]
theorem sk_10_15 : segB 2 false prog_4_method_4_code 15 sg_10_15 = true := by decide +kernel
def sg_10_19 : List RI := [(.iconst 0, 1, 0, 0, 0, 0)]
theorem sk_10_19 : segB 2 false prog_4_method_4_code 19 sg_10_19 = true := by decide +kernel
theorem ck_10_4 : decode prog_4_method_4_code 4 = .ok (.ifCond .ne 15, 3) ∧ lnkB 2 false 4 (.ifCond .ne 15, 3, 19, 0, 0, 0) = true := by decide +kernel
theorem ck_10_12 : decode prog_4_method_4_code 12 = .ok (.if_icmp .ge 7, 3) ∧ lnkB 2 false 12 (.if_icmp .ge 7, 3, 19, 0, 0, 0) = true := by decide +kernel
theorem ck_10_16 : decode prog_4_method_4_code 16 = .ok (.goto 4, 3) ∧ lnkB 2 false 16 (.goto 4, 3, 20, 0, 0, 0) = true := by decide +kernel
theorem ck_10_20 : decode prog_4_method_4_code 20 = .ok (.ireturn, 1) ∧ lnkB 2 false 20 (.ireturn, 1, 0, 0, 0, 0) = true := by decide +kernel
abbrev RU_10 (d : Nat) (cp : Nat × Nat) (Post : Option Value → Sto → Prop) : PP := Runs (Ex d) prog_4_method_4_code 2 false 2 (some .boolean) none cp Post
theorem en_10 {d : Nat} {As : List Value} {S : Sto} {mc ms : Nat} {Post : Option Value → Sto → Prop} (hc : cats As ≤ 2) (h : RU_10 d (mc, ms) Post 0 (lv_args 0 As) [] S 0 0) : Ex (d + 1) 10 As S mc ms Post := ⟨by decide, hc, h⟩
def sg_11_0 : List RI := [(.aload_n 0, 1, 0, 0, 0, 0), (.getfield 21, 3, 2, 3, 0, 0)]
theorem sk_11_0 : segB 2 false prog_4_method_5_code 0 sg_11_0 = true := by decide +kernel
def sg_11_7 : List RI := [(.aload_n 0, 1, 0, 0, 0, 0), (.getfield 27, 3, 2, 5, 0, 0)]
theorem sk_11_7 : segB 2 false prog_4_method_5_code 7 sg_11_7 = true := by decide +kernel
def sg_11_14 : List RI := [(.iload_n 1, 1, 0, 0, 0, 0), (.aload_n 0, 1, 0, 0, 0, 0), (.getfield 37, 3, 2, 8, 0, 0)]
theorem sk_11_14 : segB 2 false prog_4_method_5_code 14 sg_11_14 = true := by decide +kernel
def sg_11_22 : List RI := [(.iconst 1, 1, 0, 0, 0, 1)]
theorem sk_11_22 : segB 2 false prog_4_method_5_code 22 sg_11_22 = true := by decide +kernel
def sg_11_26 : List RI := [(.iconst 0, 1, 0, 0, 0, 0)]
theorem sk_11_26 : segB 2 false prog_4_method_5_code 26 sg_11_26 = true := by decide +kernel
def sg_11_27 : List RI := [(.istore 4, 2, 0, 0, 0, 0), (.iload 4, 2, 0, 0, 0, 0)]
theorem sk_11_27 : segB 2 false prog_4_method_5_code 27 sg_11_27 = true := by decide +kernel
def sg_11_35 : List RI := [(.iload_n 2, 1, 0, 0, 0, 0)]
theorem sk_11_35 : segB 2 false prog_4_method_5_code 35 sg_11_35 = true := by decide +kernel
def sg_11_39 : List RI := [(.aload_n 0, 1, 0, 0, 0, 0)]
theorem sk_11_39 : segB 2 false prog_4_method_5_code 39 sg_11_39 = true := by decide +kernel
def sg_11_44 : List RI := [(.aload_n 0, 1, 0, 0, 0, 0), (.dup, 1, 0, 0, 0, 0), (.getfield 31, 3, 2, 6, 0, 0), (.iconst 1, 1, 0, 0, 0, 1), (.iadd, 1, 0, 0, 0, 0), (.putfield 31, 3, 2, 6, 0, 0), (.aload_n 0, 1, 0, 0, 0, 0), (.getfield 27, 3, 2, 5, 0, 0)]
theorem sk_11_44 : segB 2 false prog_4_method_5_code 44 sg_11_44 = true := by decide +kernel
def sg_11_61 : List RI := [(.aload_n 0, 1, 0, 0, 0, 0), (.getfield 31, 3, 2, 6, 0, 0), (.aload_n 0, 1, 0, 0, 0, 0), (.getfield 21, 3, 2, 3, 0, 0)]
theorem sk_11_61 : segB 2 false prog_4_method_5_code 61 sg_11_61 = true := by decide +kernel
def sg_11_72 : List RI := [(.aload_n 0, 1, 0, 0, 0, 0), (.iload_n 3, 1, 0, 0, 0, 0)]
theorem sk_11_72 : segB 2 false prog_4_method_5_code 72 sg_11_72 = true := by decide +kernel
theorem ck_11_4 : decode prog_4_method_5_code 4 = .ok (.ifCond .le 22, 3) ∧ lnkB 2 false 4 (.ifCond .le 22, 3, 26, 0, 0, 0) = true := by decide +kernel
theorem ck_11_11 : decode prog_4_method_5_code 11 = .ok (.ifCond .ne 11, 3) ∧ lnkB 2 false 11 (.ifCond .ne 11, 3, 22, 0, 0, 0) = true := by decide +kernel
theorem ck_11_19 : decode prog_4_method_5_code 19 = .ok (.if_icmp .ne 7, 3) ∧ lnkB 2 false 19 (.if_icmp .ne 7, 3, 26, 0, 0, 0) = true := by decide +kernel
theorem ck_11_23 : decode prog_4_method_5_code 23 = .ok (.goto 4, 3) ∧ lnkB 2 false 23 (.goto 4, 3, 27, 0, 0, 0) = true := by decide +kernel
theorem ck_11_31 : decode prog_4_method_5_code 31 = .ok (.ifCond .ne 4, 3) ∧ lnkB 2 false 31 (.ifCond .ne 4, 3, 35, 0, 0, 0) = true := by decide +kernel
theorem ck_11_34 : decode prog_4_method_5_code 34 = .ok (.return_, 1) ∧ lnkB 2 false 34 (.return_, 1, 0, 0, 0, 0) = true := by decide +kernel
theorem ck_11_36 : decode prog_4_method_5_code 36 = .ok (.ifCond .ne 8, 3) ∧ lnkB 2 false 36 (.ifCond .ne 8, 3, 44, 0, 0, 0) = true := by decide +kernel
theorem ck_11_40 : decode prog_4_method_5_code 40 = .ok (.invokevirtual 40, 3) ∧ lnkB 2 false 40 (.invokevirtual 40, 3, 9, 0, 0, 0) = true := by decide +kernel
theorem ck_11_43 : decode prog_4_method_5_code 43 = .ok (.return_, 1) ∧ lnkB 2 false 43 (.return_, 1, 0, 0, 0, 0) = true := by decide +kernel
theorem ck_11_58 : decode prog_4_method_5_code 58 = .ok (.ifCond .eq 14, 3) ∧ lnkB 2 false 58 (.ifCond .eq 14, 3, 72, 0, 0, 0) = true := by decide +kernel
theorem ck_11_69 : decode prog_4_method_5_code 69 = .ok (.if_icmp .lt 8, 3) ∧ lnkB 2 false 69 (.if_icmp .lt 8, 3, 77, 0, 0, 0) = true := by decide +kernel
theorem ck_11_74 : decode prog_4_method_5_code 74 = .ok (.invokevirtual 43, 3) ∧ lnkB 2 false 74 (.invokevirtual 43, 3, 12, 0, 0, 0) = true := by decide +kernel
theorem ck_11_77 : decode prog_4_method_5_code 77 = .ok (.return_, 1) ∧ lnkB 2 false 77 (.return_, 1, 0, 0, 0, 0) = true := by decide +kernel
abbrev RU_11 (d : Nat) (cp : Nat × Nat) (Post : Option Value → Sto → Prop) : PP := Runs (Ex d) prog_4_method_5_code 2 false 5 none none cp Post
theorem en_11 {d : Nat} {As : List Value} {S : Sto} {mc ms : Nat} {Post : Option Value → Sto → Prop} (hc : cats As ≤ 5) (h : RU_11 d (mc, ms) Post 0 (lv_args 0 As) [] S 0 0) : Ex (d + 1) 11 As S mc ms Post := ⟨by decide, hc, h⟩
def sg_12_0 : List RI := [(.aload_n 0, 1, 0, 0, 0, 0), (.iconst 0, 1, 0, 0, 0, 0), (.putfield 27, 3, 2, 5, 0, 0), (.aload_n 0, 1, 0, 0, 0, 0), (.iconst 0, 1, 0, 0, 0, 0), (.putfield 31, 3, 2, 6, 0, 0), (.aload_n 0, 1, 0, 0, 0, 0), (.iload_n 1, 1, 0, 0, 0, 0), (.aload_n 0, 1, 0, 0, 0, 0), (.getfield 24, 3, 2, 4, 0, 0), (.iadd, 1, 0, 0, 0, 0), (.putfield 34, 3, 2, 7, 0, 0), (.aload_n 0, 1, 0, 0, 0, 0), (.iconst (-1), 1, 0, 0, 0, -1), (.putfield 37, 3, 2, 8, 0, 0)]
theorem sk_12_0 : segB 2 false prog_4_method_3_code 0 sg_12_0 = true := by decide +kernel
theorem ck_12_25 : decode prog_4_method_3_code 25 = .ok (.return_, 1) ∧ lnkB 2 false 25 (.return_, 1, 0, 0, 0, 0) = true := by decide +kernel
abbrev RU_12 (d : Nat) (cp : Nat × Nat) (Post : Option Value → Sto → Prop) : PP := Runs (Ex d) prog_4_method_3_code 2 false 2 none none cp Post
theorem en_12 {d : Nat} {As : List Value} {S : Sto} {mc ms : Nat} {Post : Option Value → Sto → Prop} (hc : cats As ≤ 2) (h : RU_12 d (mc, ms) Post 0 (lv_args 0 As) [] S 0 0) : Ex (d + 1) 12 As S mc ms Post := ⟨by decide, hc, h⟩
def sg_13_0 : List RI := [(.aload_n 0, 1, 0, 0, 0, 0), (.invokespecial 3, 3, 0, 4, 0, 0), (.aload_n 0, 1, 0, 0, 0, 0), (.iconst 5, 1, 0, 0, 0, 5), (.anewarray 9, 3, 0, 0, 0, 0), (.putfield 11, 3, 3, 0, 2, 0), (.aload_n 0, 1, 0, 0, 0, 0), (.bipush 20, 2, 0, 0, 0, 20), (.newarray .int, 2, 13, 0, 0, 0), (.putfield 17, 3, 3, 2, 2, 0), (.aload_n 0, 1, 0, 0, 0, 0), (.bipush 20, 2, 0, 0, 0, 20), (.newarray .int, 2, 13, 0, 0, 0), (.putfield 21, 3, 3, 3, 2, 0), (.aload_n 0, 1, 0, 0, 0, 0), (.bipush 20, 2, 0, 0, 0, 20), (.newarray .int, 2, 13, 0, 0, 0), (.putfield 24, 3, 3, 4, 2, 0), (.iconst 0, 1, 0, 0, 0, 0), (.istore_n 1, 1, 0, 0, 0, 0)]
theorem sk_13_0 : segB 3 true prog_5_method_1_code 0 sg_13_0 = true := by decide +kernel
def sg_13_38 : List RI := [(.iload_n 1, 1, 0, 0, 0, 0), (.iconst 5, 1, 0, 0, 0, 5)]
theorem sk_13_38 : segB 3 true prog_5_method_1_code 38 sg_13_38 = true := by decide +kernel
def sg_13_43 : List RI := [(.aload_n 0, 1, 0, 0, 0, 0), (.getfield 11, 3, 3, 0, 2, 0), (.iload_n 1, 1, 0, 0, 0, 0), (.new 9, 3, 2, 0, 0, 0), (.dup, 1, 0, 0, 0, 0)]
theorem sk_13_43 : segB 3 true prog_5_method_1_code 43 sg_13_43 = true := by decide +kernel
def sg_13_55 : List RI := [(.aastore, 1, 0, 0, 0, 0), (.iinc 1 1, 3, 0, 0, 0, 1)]
theorem sk_13_55 : segB 3 true prog_5_method_1_code 55 sg_13_55 = true := by decide +kernel
theorem ck_13_40 : decode prog_5_method_1_code 40 = .ok (.if_icmp .ge 22, 3) ∧ lnkB 3 true 40 (.if_icmp .ge 22, 3, 62, 0, 0, 0) = true := by decide +kernel
theorem ck_13_52 : decode prog_5_method_1_code 52 = .ok (.invokespecial 27, 3) ∧ lnkB 3 true 52 (.invokespecial 27, 3, 8, 1, 0, 0) = true := by decide +kernel
theorem ck_13_59 : decode prog_5_method_1_code 59 = .ok (.goto (-21), 3) ∧ lnkB 3 true 59 (.goto (-21), 3, 38, 0, 0, 0) = true := by decide +kernel
theorem ck_13_62 : decode prog_5_method_1_code 62 = .ok (.return_, 1) ∧ lnkB 3 true 62 (.return_, 1, 0, 0, 0, 0) = true := by decide +kernel
abbrev RU_13 (d : Nat) (cp : Nat × Nat) (Post : Option Value → Sto → Prop) : PP := Runs (Ex d) prog_5_method_1_code 3 true 2 none none cp Post
theorem en_13 {d : Nat} {As : List Value} {S : Sto} {mc ms : Nat} {Post : Option Value → Sto → Prop} (hc : cats As ≤ 2) (h : RU_13 d (mc, ms) Post 0 (lv_args 0 As) [] S 0 0) : Ex (d + 1) 13 As S mc ms Post := ⟨by decide, hc, h⟩
def sg_14_0 : List RI := [(.aload_n 0, 1, 0, 0, 0, 0), (.getfield 28, 3, 3, 1, 0, 0), (.bipush 20, 2, 0, 0, 0, 20)]
theorem sk_14_0 : segB 3 false prog_5_method_2_code 0 sg_14_0 = true := by decide +kernel
def sg_14_9 : List RI := [(.iconst (-1), 1, 0, 0, 0, -1)]
theorem sk_14_9 : segB 3 false prog_5_method_2_code 9 sg_14_9 = true := by decide +kernel
def sg_14_11 : List RI := [(.aload_n 0, 1, 0, 0, 0, 0), (.getfield 17, 3, 3, 2, 2, 0), (.aload_n 0, 1, 0, 0, 0, 0), (.getfield 28, 3, 3, 1, 0, 0), (.iload_n 1, 1, 0, 0, 0, 0)]
theorem sk_14_11 : segB 3 false prog_5_method_2_code 11 sg_14_11 = true := by decide +kernel
def sg_14_21 : List RI := [(.aload_n 0, 1, 0, 0, 0, 0), (.getfield 21, 3, 3, 3, 2, 0), (.aload_n 0, 1, 0, 0, 0, 0), (.getfield 28, 3, 3, 1, 0, 0), (.iload_n 2, 1, 0, 0, 0, 0)]
theorem sk_14_21 : segB 3 false prog_5_method_2_code 21 sg_14_21 = true := by decide +kernel
def sg_14_31 : List RI := [(.aload_n 0, 1, 0, 0, 0, 0), (.getfield 24, 3, 3, 4, 2, 0), (.aload_n 0, 1, 0, 0, 0, 0), (.getfield 28, 3, 3, 1, 0, 0), (.iload_n 3, 1, 0, 0, 0, 0)]
theorem sk_14_31 : segB 3 false prog_5_method_2_code 31 sg_14_31 = true := by decide +kernel
def sg_14_41 : List RI := [(.aload_n 0, 1, 0, 0, 0, 0), (.dup, 1, 0, 0, 0, 0), (.getfield 28, 3, 3, 1, 0, 0), (.iconst 1, 1, 0, 0, 0, 1), (.iadd, 1, 0, 0, 0, 0), (.putfield 28, 3, 3, 1, 0, 0), (.aload_n 0, 1, 0, 0, 0, 0), (.getfield 28, 3, 3, 1, 0, 0)]
theorem sk_14_41 : segB 3 false prog_5_method_2_code 41 sg_14_41 = true := by decide +kernel
theorem ck_14_6 : decode prog_5_method_2_code 6 = .ok (.if_icmp .lt 5, 3) ∧ lnkB 3 false 6 (.if_icmp .lt 5, 3, 11, 0, 0, 0) = true := by decide +kernel
theorem ck_14_10 : decode prog_5_method_2_code 10 = .ok (.ireturn, 1) ∧ lnkB 3 false 10 (.ireturn, 1, 0, 0, 0, 0) = true := by decide +kernel
theorem ca_14_20 : decode prog_5_method_2_code 20 = .ok (.iastore, 1) ∧ lnkB 3 false 20 (.iastore, 1, 0, 0, 0, 0) = true := by decide +kernel
theorem ca_14_30 : decode prog_5_method_2_code 30 = .ok (.iastore, 1) ∧ lnkB 3 false 30 (.iastore, 1, 0, 0, 0, 0) = true := by decide +kernel
theorem ca_14_40 : decode prog_5_method_2_code 40 = .ok (.iastore, 1) ∧ lnkB 3 false 40 (.iastore, 1, 0, 0, 0, 0) = true := by decide +kernel
theorem ck_14_55 : decode prog_5_method_2_code 55 = .ok (.ireturn, 1) ∧ lnkB 3 false 55 (.ireturn, 1, 0, 0, 0, 0) = true := by decide +kernel
abbrev RU_14 (d : Nat) (cp : Nat × Nat) (Post : Option Value → Sto → Prop) : PP := Runs (Ex d) prog_5_method_2_code 3 false 4 (some .int) none cp Post
theorem en_14 {d : Nat} {As : List Value} {S : Sto} {mc ms : Nat} {Post : Option Value → Sto → Prop} (hc : cats As ≤ 4) (h : RU_14 d (mc, ms) Post 0 (lv_args 0 As) [] S 0 0) : Ex (d + 1) 14 As S mc ms Post := ⟨by decide, hc, h⟩
def sg_15_0 : List RI := [(.iconst 0, 1, 0, 0, 0, 0), (.istore_n 3, 1, 0, 0, 0, 0)]
theorem sk_15_0 : segB 3 false prog_5_method_3_code 0 sg_15_0 = true := by decide +kernel
def sg_15_2 : List RI := [(.iload_n 3, 1, 0, 0, 0, 0), (.aload_n 0, 1, 0, 0, 0, 0), (.getfield 28, 3, 3, 1, 0, 0)]
theorem sk_15_2 : segB 3 false prog_5_method_3_code 2 sg_15_2 = true := by decide +kernel
def sg_15_10 : List RI := [(.aload_n 0, 1, 0, 0, 0, 0), (.getfield 17, 3, 3, 2, 2, 0), (.iload_n 3, 1, 0, 0, 0, 0)]
theorem sk_15_10 : segB 3 false prog_5_method_3_code 10 sg_15_10 = true := by decide +kernel
def sg_15_16 : List RI := [(.iload_n 1, 1, 0, 0, 0, 0)]
theorem sk_15_16 : segB 3 false prog_5_method_3_code 16 sg_15_16 = true := by decide +kernel
def sg_15_20 : List RI := [(.iload_n 2, 1, 0, 0, 0, 0), (.aload_n 0, 1, 0, 0, 0, 0), (.getfield 21, 3, 3, 3, 2, 0), (.iload_n 3, 1, 0, 0, 0, 0)]
theorem sk_15_20 : segB 3 false prog_5_method_3_code 20 sg_15_20 = true := by decide +kernel
def sg_15_27 : List RI := [(.aload_n 0, 1, 0, 0, 0, 0), (.getfield 24, 3, 3, 4, 2, 0), (.iload_n 3, 1, 0, 0, 0, 0)]
theorem sk_15_27 : segB 3 false prog_5_method_3_code 27 sg_15_27 = true := by decide +kernel
def sg_15_39 : List RI := [(.iconst 1, 1, 0, 0, 0, 1)]
theorem sk_15_39 : segB 3 false prog_5_method_3_code 39 sg_15_39 = true := by decide +kernel
def sg_15_41 : List RI := [(.iinc 3 1, 3, 0, 0, 0, 1)]
theorem sk_15_41 : segB 3 false prog_5_method_3_code 41 sg_15_41 = true := by decide +kernel
def sg_15_47 : List RI := [(.iconst 0, 1, 0, 0, 0, 0)]
theorem sk_15_47 : segB 3 false prog_5_method_3_code 47 sg_15_47 = true := by decide +kernel
theorem ck_15_7 : decode prog_5_method_3_code 7 = .ok (.if_icmp .ge 40, 3) ∧ lnkB 3 false 7 (.if_icmp .ge 40, 3, 47, 0, 0, 0) = true := by decide +kernel
theorem ca_15_15 : decode prog_5_method_3_code 15 = .ok (.iaload, 1) ∧ lnkB 3 false 15 (.iaload, 1, 0, 0, 0, 0) = true := by decide +kernel
theorem ck_15_17 : decode prog_5_method_3_code 17 = .ok (.if_icmp .ne 24, 3) ∧ lnkB 3 false 17 (.if_icmp .ne 24, 3, 41, 0, 0, 0) = true := by decide +kernel
theorem ca_15_26 : decode prog_5_method_3_code 26 = .ok (.iaload, 1) ∧ lnkB 3 false 26 (.iaload, 1, 0, 0, 0, 0) = true := by decide +kernel
theorem ca_15_32 : decode prog_5_method_3_code 32 = .ok (.iaload, 1) ∧ lnkB 3 false 32 (.iaload, 1, 0, 0, 0, 0) = true := by decide +kernel
theorem ck_15_33 : decode prog_5_method_3_code 33 = .ok (.invokestatic 32, 3) ∧ lnkB 3 false 33 (.invokestatic 32, 3, 57, 1, 0, 0) = true := by decide +kernel
theorem ck_15_36 : decode prog_5_method_3_code 36 = .ok (.ifCond .eq 5, 3) ∧ lnkB 3 false 36 (.ifCond .eq 5, 3, 41, 0, 0, 0) = true := by decide +kernel
theorem ck_15_40 : decode prog_5_method_3_code 40 = .ok (.ireturn, 1) ∧ lnkB 3 false 40 (.ireturn, 1, 0, 0, 0, 0) = true := by decide +kernel
theorem ck_15_44 : decode prog_5_method_3_code 44 = .ok (.goto (-42), 3) ∧ lnkB 3 false 44 (.goto (-42), 3, 2, 0, 0, 0) = true := by decide +kernel
theorem ck_15_48 : decode prog_5_method_3_code 48 = .ok (.ireturn, 1) ∧ lnkB 3 false 48 (.ireturn, 1, 0, 0, 0, 0) = true := by decide +kernel
abbrev RU_15 (d : Nat) (cp : Nat × Nat) (Post : Option Value → Sto → Prop) : PP := Runs (Ex d) prog_5_method_3_code 3 false 4 (some .boolean) none cp Post
theorem en_15 {d : Nat} {As : List Value} {S : Sto} {mc ms : Nat} {Post : Option Value → Sto → Prop} (hc : cats As ≤ 4) (h : RU_15 d (mc, ms) Post 0 (lv_args 0 As) [] S 0 0) : Ex (d + 1) 15 As S mc ms Post := ⟨by decide, hc, h⟩
def sg_16_0 : List RI := [(.aload_n 0, 1, 0, 0, 0, 0), (.invokespecial 3, 3, 0, 4, 0, 0), (.aload_n 0, 1, 0, 0, 0, 0), (.iconst 5, 1, 0, 0, 0, 5), (.newarray .int, 2, 13, 0, 0, 0), (.putfield 9, 3, 4, 2, 2, 0), (.aload_n 0, 1, 0, 0, 0, 0), (.aload_n 1, 1, 0, 0, 0, 0), (.putfield 15, 3, 4, 0, 2, 0), (.aload_n 0, 1, 0, 0, 0, 0), (.aload_n 2, 1, 0, 0, 0, 0), (.putfield 19, 3, 4, 1, 2, 0)]
theorem sk_16_0 : segB 4 true prog_6_method_1_code 0 sg_16_0 = true := by decide +kernel
theorem ck_16_21 : decode prog_6_method_1_code 21 = .ok (.return_, 1) ∧ lnkB 4 true 21 (.return_, 1, 0, 0, 0, 0) = true := by decide +kernel
abbrev RU_16 (d : Nat) (cp : Nat × Nat) (Post : Option Value → Sto → Prop) : PP := Runs (Ex d) prog_6_method_1_code 4 true 3 none none cp Post
theorem en_16 {d : Nat} {As : List Value} {S : Sto} {mc ms : Nat} {Post : Option Value → Sto → Prop} (hc : cats As ≤ 3) (h : RU_16 d (mc, ms) Post 0 (lv_args 0 As) [] S 0 0) : Ex (d + 1) 16 As S mc ms Post := ⟨by decide, hc, h⟩
def sg_17_0 : List RI := [(.aload_n 0, 1, 0, 0, 0, 0), (.getfield 15, 3, 4, 0, 2, 0), (.iconst 0, 1, 0, 0, 0, 0), (.putfield 23, 3, 9, 7, 0, 0), (.aload_n 0, 1, 0, 0, 0, 0), (.iconst 0, 1, 0, 0, 0, 0), (.putfield 29, 3, 4, 3, 0, 0), (.aload_n 0, 1, 0, 0, 0, 0), (.iconst 0, 1, 0, 0, 0, 0), (.putfield 32, 3, 4, 4, 0, 0), (.aload_n 0, 1, 0, 0, 0, 0), (.iload_n 2, 1, 0, 0, 0, 0), (.putfield 35, 3, 4, 5, 0, 0), (.aload_n 0, 1, 0, 0, 0, 0), (.iconst 1, 1, 0, 0, 0, 1), (.putfield 38, 3, 4, 6, 0, 0), (.aload_n 0, 1, 0, 0, 0, 0), (.iconst (-1), 1, 0, 0, 0, -1), (.putfield 41, 3, 4, 7, 0, 0), (.iconst 0, 1, 0, 0, 0, 0), (.istore_n 3, 1, 0, 0, 0, 0)]
theorem sk_17_0 : segB 4 false prog_6_method_2_code 0 sg_17_0 = true := by decide +kernel
def sg_17_35 : List RI := [(.iload_n 3, 1, 0, 0, 0, 0), (.aload_n 1, 1, 0, 0, 0, 0), (.getfield 44, 3, 7, 1, 0, 0)]
theorem sk_17_35 : segB 4 false prog_6_method_2_code 35 sg_17_35 = true := by decide +kernel
def sg_17_43 : List RI := [(.aload_n 1, 1, 0, 0, 0, 0), (.getfield 49, 3, 7, 0, 2, 0), (.iload_n 3, 1, 0, 0, 0, 0)]
theorem sk_17_43 : segB 4 false prog_6_method_2_code 43 sg_17_43 = true := by decide +kernel
def sg_17_49 : List RI := [(.bipush 32, 2, 0, 0, 0, 32)]
theorem sk_17_49 : segB 4 false prog_6_method_2_code 49 sg_17_49 = true := by decide +kernel
def sg_17_54 : List RI := [(.iconst (-1), 1, 0, 0, 0, -1)]
theorem sk_17_54 : segB 4 false prog_6_method_2_code 54 sg_17_54 = true := by decide +kernel
def sg_17_58 : List RI := [(.aload_n 0, 1, 0, 0, 0, 0), (.aload_n 1, 1, 0, 0, 0, 0), (.getfield 49, 3, 7, 0, 2, 0), (.iload_n 3, 1, 0, 0, 0, 0)]
theorem sk_17_58 : segB 4 false prog_6_method_2_code 58 sg_17_58 = true := by decide +kernel
def sg_17_65 : List RI := [(.iload_n 3, 1, 0, 0, 0, 0)]
theorem sk_17_65 : segB 4 false prog_6_method_2_code 65 sg_17_65 = true := by decide +kernel
def sg_17_69 : List RI := [(.istore 4, 2, 0, 0, 0, 0), (.iload 4, 2, 0, 0, 0, 0), (.iconst (-1), 1, 0, 0, 0, -1)]
theorem sk_17_69 : segB 4 false prog_6_method_2_code 69 sg_17_69 = true := by decide +kernel
def sg_17_77 : List RI := [(.iconst 1, 1, 0, 0, 0, 1), (.iconst 4, 1, 0, 0, 0, 4), (.iload_n 3, 1, 0, 0, 0, 0), (.imul, 1, 0, 0, 0, 0), (.iadd, 1, 0, 0, 0, 0), (.iload 4, 2, 0, 0, 0, 0), (.iadd, 1, 0, 0, 0, 0)]
theorem sk_17_77 : segB 4 false prog_6_method_2_code 77 sg_17_77 = true := by decide +kernel
def sg_17_86 : List RI := [(.iinc 3 1, 3, 0, 0, 0, 1)]
theorem sk_17_86 : segB 4 false prog_6_method_2_code 86 sg_17_86 = true := by decide +kernel
def sg_17_92 : List RI := [(.aload_n 0, 1, 0, 0, 0, 0), (.getfield 32, 3, 4, 4, 0, 0), (.iconst 2, 1, 0, 0, 0, 2)]
theorem sk_17_92 : segB 4 false prog_6_method_2_code 92 sg_17_92 = true := by decide +kernel
def sg_17_100 : List RI := [(.iconst 0, 1, 0, 0, 0, 0)]
theorem sk_17_100 : segB 4 false prog_6_method_2_code 100 sg_17_100 = true := by decide +kernel
def sg_17_104 : List RI := [(.iconst 1, 1, 0, 0, 0, 1), (.iconst 4, 1, 0, 0, 0, 4), (.aload_n 1, 1, 0, 0, 0, 0), (.getfield 44, 3, 7, 1, 0, 0), (.imul, 1, 0, 0, 0, 0), (.iadd, 1, 0, 0, 0, 0), (.iconst 0, 1, 0, 0, 0, 0), (.iadd, 1, 0, 0, 0, 0)]
theorem sk_17_104 : segB 4 false prog_6_method_2_code 104 sg_17_104 = true := by decide +kernel
theorem ck_17_40 : decode prog_6_method_2_code 40 = .ok (.if_icmp .ge 52, 3) ∧ lnkB 4 false 40 (.if_icmp .ge 52, 3, 92, 0, 0, 0) = true := by decide +kernel
theorem ca_17_48 : decode prog_6_method_2_code 48 = .ok (.iaload, 1) ∧ lnkB 4 false 48 (.iaload, 1, 0, 0, 0, 0) = true := by decide +kernel
theorem ck_17_51 : decode prog_6_method_2_code 51 = .ok (.if_icmp .ne 7, 3) ∧ lnkB 4 false 51 (.if_icmp .ne 7, 3, 58, 0, 0, 0) = true := by decide +kernel
theorem ck_17_55 : decode prog_6_method_2_code 55 = .ok (.goto 14, 3) ∧ lnkB 4 false 55 (.goto 14, 3, 69, 0, 0, 0) = true := by decide +kernel
theorem ca_17_64 : decode prog_6_method_2_code 64 = .ok (.iaload, 1) ∧ lnkB 4 false 64 (.iaload, 1, 0, 0, 0, 0) = true := by decide +kernel
theorem ck_17_66 : decode prog_6_method_2_code 66 = .ok (.invokevirtual 52, 3) ∧ lnkB 4 false 66 (.invokevirtual 52, 3, 18, 0, 0, 0) = true := by decide +kernel
theorem ck_17_74 : decode prog_6_method_2_code 74 = .ok (.if_icmp .eq 12, 3) ∧ lnkB 4 false 74 (.if_icmp .eq 12, 3, 86, 0, 0, 0) = true := by decide +kernel
theorem ck_17_85 : decode prog_6_method_2_code 85 = .ok (.ireturn, 1) ∧ lnkB 4 false 85 (.ireturn, 1, 0, 0, 0, 0) = true := by decide +kernel
theorem ck_17_89 : decode prog_6_method_2_code 89 = .ok (.goto (-54), 3) ∧ lnkB 4 false 89 (.goto (-54), 3, 35, 0, 0, 0) = true := by decide +kernel
theorem ck_17_97 : decode prog_6_method_2_code 97 = .ok (.if_icmp .ne 7, 3) ∧ lnkB 4 false 97 (.if_icmp .ne 7, 3, 104, 0, 0, 0) = true := by decide +kernel
theorem ck_17_101 : decode prog_6_method_2_code 101 = .ok (.goto 13, 3) ∧ lnkB 4 false 101 (.goto 13, 3, 114, 0, 0, 0) = true := by decide +kernel
theorem ck_17_114 : decode prog_6_method_2_code 114 = .ok (.ireturn, 1) ∧ lnkB 4 false 114 (.ireturn, 1, 0, 0, 0, 0) = true := by decide +kernel
abbrev RU_17 (d : Nat) (cp : Nat × Nat) (Post : Option Value → Sto → Prop) : PP := Runs (Ex d) prog_6_method_2_code 4 false 5 (some .int) none cp Post
theorem en_17 {d : Nat} {As : List Value} {S : Sto} {mc ms : Nat} {Post : Option Value → Sto → Prop} (hc : cats As ≤ 5) (h : RU_17 d (mc, ms) Post 0 (lv_args 0 As) [] S 0 0) : Ex (d + 1) 17 As S mc ms Post := ⟨by decide, hc, h⟩
def sg_18_0 : List RI := [(.aload_n 0, 1, 0, 0, 0, 0), (.getfield 32, 3, 4, 4, 0, 0)]
theorem sk_18_0 : segB 4 false prog_6_method_3_code 0 sg_18_0 = true := by decide +kernel
def sg_18_7 : List RI := [(.iload_n 1, 1, 0, 0, 0, 0), (.bipush 123, 2, 0, 0, 0, 123)]
theorem sk_18_7 : segB 4 false prog_6_method_3_code 7 sg_18_7 = true := by decide +kernel
def sg_18_13 : List RI := [(.aload_n 0, 1, 0, 0, 0, 0), (.iload_n 2, 1, 0, 0, 0, 0)]
theorem sk_18_13 : segB 4 false prog_6_method_3_code 13 sg_18_13 = true := by decide +kernel
def sg_18_21 : List RI := [(.iconst 0, 1, 0, 0, 0, 0)]
theorem sk_18_21 : segB 4 false prog_6_method_3_code 21 sg_18_21 = true := by decide +kernel
def sg_18_23 : List RI := [(.aload_n 0, 1, 0, 0, 0, 0), (.getfield 32, 3, 4, 4, 0, 0), (.iconst 2, 1, 0, 0, 0, 2)]
theorem sk_18_23 : segB 4 false prog_6_method_3_code 23 sg_18_23 = true := by decide +kernel
def sg_18_31 : List RI := [(.aload_n 0, 1, 0, 0, 0, 0), (.getfield 29, 3, 4, 3, 0, 0), (.iconst 1, 1, 0, 0, 0, 1)]
theorem sk_18_31 : segB 4 false prog_6_method_3_code 31 sg_18_31 = true := by decide +kernel
def sg_18_39 : List RI := [(.iconst 0, 1, 0, 0, 0, 0)]
theorem sk_18_39 : segB 4 false prog_6_method_3_code 39 sg_18_39 = true := by decide +kernel
def sg_18_41 : List RI := [(.aload_n 0, 1, 0, 0, 0, 0), (.getfield 9, 3, 4, 2, 2, 0), (.aload_n 0, 1, 0, 0, 0, 0), (.getfield 29, 3, 4, 3, 0, 0), (.iconst 1, 1, 0, 0, 0, 1), (.isub, 1, 0, 0, 0, 0)]
theorem sk_18_41 : segB 4 false prog_6_method_3_code 41 sg_18_41 = true := by decide +kernel
def sg_18_52 : List RI := [(.istore_n 3, 1, 0, 0, 0, 0), (.iload_n 1, 1, 0, 0, 0, 0), (.bipush 125, 2, 0, 0, 0, 125)]
theorem sk_18_52 : segB 4 false prog_6_method_3_code 52 sg_18_52 = true := by decide +kernel
def sg_18_59 : List RI := [(.aload_n 0, 1, 0, 0, 0, 0), (.iload_n 3, 1, 0, 0, 0, 0)]
theorem sk_18_59 : segB 4 false prog_6_method_3_code 59 sg_18_59 = true := by decide +kernel
def sg_18_65 : List RI := [(.iload_n 1, 1, 0, 0, 0, 0), (.bipush 48, 2, 0, 0, 0, 48), (.bipush 51, 2, 0, 0, 0, 51)]
theorem sk_18_65 : segB 4 false prog_6_method_3_code 65 sg_18_65 = true := by decide +kernel
def sg_18_76 : List RI := [(.aload_n 0, 1, 0, 0, 0, 0), (.iload_n 3, 1, 0, 0, 0, 0), (.iload_n 1, 1, 0, 0, 0, 0), (.bipush 48, 2, 0, 0, 0, 48), (.isub, 1, 0, 0, 0, 0)]
theorem sk_18_76 : segB 4 false prog_6_method_3_code 76 sg_18_76 = true := by decide +kernel
def sg_18_88 : List RI := [(.iconst 0, 1, 0, 0, 0, 0)]
theorem sk_18_88 : segB 4 false prog_6_method_3_code 88 sg_18_88 = true := by decide +kernel
theorem ck_18_4 : decode prog_6_method_3_code 4 = .ok (.ifCond .ne 19, 3) ∧ lnkB 4 false 4 (.ifCond .ne 19, 3, 23, 0, 0, 0) = true := by decide +kernel
theorem ck_18_10 : decode prog_6_method_3_code 10 = .ok (.if_icmp .ne 11, 3) ∧ lnkB 4 false 10 (.if_icmp .ne 11, 3, 21, 0, 0, 0) = true := by decide +kernel
theorem ck_18_15 : decode prog_6_method_3_code 15 = .ok (.invokevirtual 56, 3) ∧ lnkB 4 false 15 (.invokevirtual 56, 3, 19, 0, 0, 0) = true := by decide +kernel
theorem ck_18_18 : decode prog_6_method_3_code 18 = .ok (.goto 4, 3) ∧ lnkB 4 false 18 (.goto 4, 3, 22, 0, 0, 0) = true := by decide +kernel
theorem ck_18_22 : decode prog_6_method_3_code 22 = .ok (.ireturn, 1) ∧ lnkB 4 false 22 (.ireturn, 1, 0, 0, 0, 0) = true := by decide +kernel
theorem ck_18_28 : decode prog_6_method_3_code 28 = .ok (.if_icmp .eq 11, 3) ∧ lnkB 4 false 28 (.if_icmp .eq 11, 3, 39, 0, 0, 0) = true := by decide +kernel
theorem ck_18_36 : decode prog_6_method_3_code 36 = .ok (.if_icmp .ge 5, 3) ∧ lnkB 4 false 36 (.if_icmp .ge 5, 3, 41, 0, 0, 0) = true := by decide +kernel
theorem ck_18_40 : decode prog_6_method_3_code 40 = .ok (.ireturn, 1) ∧ lnkB 4 false 40 (.ireturn, 1, 0, 0, 0, 0) = true := by decide +kernel
theorem ca_18_51 : decode prog_6_method_3_code 51 = .ok (.iaload, 1) ∧ lnkB 4 false 51 (.iaload, 1, 0, 0, 0, 0) = true := by decide +kernel
theorem ck_18_56 : decode prog_6_method_3_code 56 = .ok (.if_icmp .ne 9, 3) ∧ lnkB 4 false 56 (.if_icmp .ne 9, 3, 65, 0, 0, 0) = true := by decide +kernel
theorem ck_18_61 : decode prog_6_method_3_code 61 = .ok (.invokevirtual 60, 3) ∧ lnkB 4 false 61 (.invokevirtual 60, 3, 20, 0, 0, 0) = true := by decide +kernel
theorem ck_18_64 : decode prog_6_method_3_code 64 = .ok (.ireturn, 1) ∧ lnkB 4 false 64 (.ireturn, 1, 0, 0, 0, 0) = true := by decide +kernel
theorem ck_18_70 : decode prog_6_method_3_code 70 = .ok (.invokestatic 63, 3) ∧ lnkB 4 false 70 (.invokestatic 63, 3, 57, 1, 0, 0) = true := by decide +kernel
theorem ck_18_73 : decode prog_6_method_3_code 73 = .ok (.ifCond .eq 15, 3) ∧ lnkB 4 false 73 (.ifCond .eq 15, 3, 88, 0, 0, 0) = true := by decide +kernel
theorem ck_18_82 : decode prog_6_method_3_code 82 = .ok (.invokevirtual 67, 3) ∧ lnkB 4 false 82 (.invokevirtual 67, 3, 21, 0, 0, 0) = true := by decide +kernel
theorem ck_18_85 : decode prog_6_method_3_code 85 = .ok (.goto 4, 3) ∧ lnkB 4 false 85 (.goto 4, 3, 89, 0, 0, 0) = true := by decide +kernel
theorem ck_18_89 : decode prog_6_method_3_code 89 = .ok (.ireturn, 1) ∧ lnkB 4 false 89 (.ireturn, 1, 0, 0, 0, 0) = true := by decide +kernel
abbrev RU_18 (d : Nat) (cp : Nat × Nat) (Post : Option Value → Sto → Prop) : PP := Runs (Ex d) prog_6_method_3_code 4 false 4 (some .int) none cp Post
theorem en_18 {d : Nat} {As : List Value} {S : Sto} {mc ms : Nat} {Post : Option Value → Sto → Prop} (hc : cats As ≤ 4) (h : RU_18 d (mc, ms) Post 0 (lv_args 0 As) [] S 0 0) : Ex (d + 1) 18 As S mc ms Post := ⟨by decide, hc, h⟩
def sg_19_0 : List RI := [(.aload_n 0, 1, 0, 0, 0, 0), (.getfield 15, 3, 4, 0, 2, 0), (.getfield 23, 3, 9, 7, 0, 0), (.bipush 20, 2, 0, 0, 0, 20)]
theorem sk_19_0 : segB 4 false prog_6_method_4_code 0 sg_19_0 = true := by decide +kernel
def sg_19_12 : List RI := [(.aload_n 0, 1, 0, 0, 0, 0), (.getfield 29, 3, 4, 3, 0, 0), (.iconst 5, 1, 0, 0, 0, 5)]
theorem sk_19_12 : segB 4 false prog_6_method_4_code 12 sg_19_12 = true := by decide +kernel
def sg_19_20 : List RI := [(.iconst 1, 1, 0, 0, 0, 1)]
theorem sk_19_20 : segB 4 false prog_6_method_4_code 20 sg_19_20 = true := by decide +kernel
def sg_19_22 : List RI := [(.aload_n 0, 1, 0, 0, 0, 0), (.getfield 15, 3, 4, 0, 2, 0), (.getfield 23, 3, 9, 7, 0, 0), (.istore_n 2, 1, 0, 0, 0, 0), (.aload_n 0, 1, 0, 0, 0, 0), (.getfield 15, 3, 4, 0, 2, 0), (.dup, 1, 0, 0, 0, 0), (.getfield 23, 3, 9, 7, 0, 0), (.iconst 1, 1, 0, 0, 0, 1), (.iadd, 1, 0, 0, 0, 0), (.putfield 23, 3, 9, 7, 0, 0), (.aload_n 0, 1, 0, 0, 0, 0), (.getfield 15, 3, 4, 0, 2, 0), (.getfield 70, 3, 9, 0, 2, 0), (.iload_n 2, 1, 0, 0, 0, 0), (.aload_n 0, 1, 0, 0, 0, 0), (.getfield 35, 3, 4, 5, 0, 0)]
theorem sk_19_22 : segB 4 false prog_6_method_4_code 22 sg_19_22 = true := by decide +kernel
def sg_19_56 : List RI := [(.aload_n 0, 1, 0, 0, 0, 0), (.getfield 15, 3, 4, 0, 2, 0), (.getfield 73, 3, 9, 2, 2, 0), (.iload_n 2, 1, 0, 0, 0, 0), (.aload_n 0, 1, 0, 0, 0, 0), (.getfield 38, 3, 4, 6, 0, 0)]
theorem sk_19_56 : segB 4 false prog_6_method_4_code 56 sg_19_56 = true := by decide +kernel
def sg_19_69 : List RI := [(.aload_n 0, 1, 0, 0, 0, 0), (.getfield 15, 3, 4, 0, 2, 0), (.getfield 76, 3, 9, 1, 2, 0), (.iload_n 2, 1, 0, 0, 0, 0), (.iload_n 1, 1, 0, 0, 0, 0)]
theorem sk_19_69 : segB 4 false prog_6_method_4_code 69 sg_19_69 = true := by decide +kernel
def sg_19_79 : List RI := [(.aload_n 0, 1, 0, 0, 0, 0), (.getfield 15, 3, 4, 0, 2, 0), (.getfield 79, 3, 9, 4, 2, 0), (.iload_n 2, 1, 0, 0, 0, 0), (.iconst 0, 1, 0, 0, 0, 0)]
theorem sk_19_79 : segB 4 false prog_6_method_4_code 79 sg_19_79 = true := by decide +kernel
def sg_19_89 : List RI := [(.aload_n 0, 1, 0, 0, 0, 0), (.getfield 9, 3, 4, 2, 2, 0), (.aload_n 0, 1, 0, 0, 0, 0), (.getfield 29, 3, 4, 3, 0, 0), (.iload_n 2, 1, 0, 0, 0, 0)]
theorem sk_19_89 : segB 4 false prog_6_method_4_code 89 sg_19_89 = true := by decide +kernel
def sg_19_99 : List RI := [(.aload_n 0, 1, 0, 0, 0, 0), (.dup, 1, 0, 0, 0, 0), (.getfield 29, 3, 4, 3, 0, 0), (.iconst 1, 1, 0, 0, 0, 1), (.iadd, 1, 0, 0, 0, 0), (.putfield 29, 3, 4, 3, 0, 0), (.aload_n 0, 1, 0, 0, 0, 0), (.getfield 15, 3, 4, 0, 2, 0), (.getfield 82, 3, 9, 3, 2, 0), (.iload_n 2, 1, 0, 0, 0, 0), (.aload_n 0, 1, 0, 0, 0, 0), (.getfield 29, 3, 4, 3, 0, 0)]
theorem sk_19_99 : segB 4 false prog_6_method_4_code 99 sg_19_99 = true := by decide +kernel
def sg_19_122 : List RI := [(.aload_n 0, 1, 0, 0, 0, 0), (.getfield 41, 3, 4, 7, 0, 0), (.iconst (-1), 1, 0, 0, 0, -1)]
theorem sk_19_122 : segB 4 false prog_6_method_4_code 122 sg_19_122 = true := by decide +kernel
def sg_19_130 : List RI := [(.aload_n 0, 1, 0, 0, 0, 0), (.getfield 15, 3, 4, 0, 2, 0), (.getfield 84, 3, 9, 6, 2, 0), (.aload_n 0, 1, 0, 0, 0, 0), (.getfield 41, 3, 4, 7, 0, 0), (.iload_n 2, 1, 0, 0, 0, 0)]
theorem sk_19_130 : segB 4 false prog_6_method_4_code 130 sg_19_130 = true := by decide +kernel
def sg_19_143 : List RI := [(.aload_n 0, 1, 0, 0, 0, 0), (.iconst 1, 1, 0, 0, 0, 1), (.putfield 32, 3, 4, 4, 0, 0), (.iconst (-1), 1, 0, 0, 0, -1)]
theorem sk_19_143 : segB 4 false prog_6_method_4_code 143 sg_19_143 = true := by decide +kernel
theorem ck_19_9 : decode prog_6_method_4_code 9 = .ok (.if_icmp .ge 11, 3) ∧ lnkB 4 false 9 (.if_icmp .ge 11, 3, 20, 0, 0, 0) = true := by decide +kernel
theorem ck_19_17 : decode prog_6_method_4_code 17 = .ok (.if_icmp .lt 5, 3) ∧ lnkB 4 false 17 (.if_icmp .lt 5, 3, 22, 0, 0, 0) = true := by decide +kernel
theorem ck_19_21 : decode prog_6_method_4_code 21 = .ok (.ireturn, 1) ∧ lnkB 4 false 21 (.ireturn, 1, 0, 0, 0, 0) = true := by decide +kernel
theorem ca_19_55 : decode prog_6_method_4_code 55 = .ok (.iastore, 1) ∧ lnkB 4 false 55 (.iastore, 1, 0, 0, 0, 0) = true := by decide +kernel
theorem ca_19_68 : decode prog_6_method_4_code 68 = .ok (.iastore, 1) ∧ lnkB 4 false 68 (.iastore, 1, 0, 0, 0, 0) = true := by decide +kernel
theorem ca_19_78 : decode prog_6_method_4_code 78 = .ok (.iastore, 1) ∧ lnkB 4 false 78 (.iastore, 1, 0, 0, 0, 0) = true := by decide +kernel
theorem ca_19_88 : decode prog_6_method_4_code 88 = .ok (.iastore, 1) ∧ lnkB 4 false 88 (.iastore, 1, 0, 0, 0, 0) = true := by decide +kernel
theorem ca_19_98 : decode prog_6_method_4_code 98 = .ok (.iastore, 1) ∧ lnkB 4 false 98 (.iastore, 1, 0, 0, 0, 0) = true := by decide +kernel
theorem ca_19_121 : decode prog_6_method_4_code 121 = .ok (.iastore, 1) ∧ lnkB 4 false 121 (.iastore, 1, 0, 0, 0, 0) = true := by decide +kernel
theorem ck_19_127 : decode prog_6_method_4_code 127 = .ok (.if_icmp .eq 16, 3) ∧ lnkB 4 false 127 (.if_icmp .eq 16, 3, 143, 0, 0, 0) = true := by decide +kernel
theorem ca_19_142 : decode prog_6_method_4_code 142 = .ok (.iastore, 1) ∧ lnkB 4 false 142 (.iastore, 1, 0, 0, 0, 0) = true := by decide +kernel
theorem ck_19_149 : decode prog_6_method_4_code 149 = .ok (.ireturn, 1) ∧ lnkB 4 false 149 (.ireturn, 1, 0, 0, 0, 0) = true := by decide +kernel
abbrev RU_19 (d : Nat) (cp : Nat × Nat) (Post : Option Value → Sto → Prop) : PP := Runs (Ex d) prog_6_method_4_code 4 false 3 (some .int) none cp Post
theorem en_19 {d : Nat} {As : List Value} {S : Sto} {mc ms : Nat} {Post : Option Value → Sto → Prop} (hc : cats As ≤ 3) (h : RU_19 d (mc, ms) Post 0 (lv_args 0 As) [] S 0 0) : Ex (d + 1) 19 As S mc ms Post := ⟨by decide, hc, h⟩
def sg_20_0 : List RI := [(.aload_n 0, 1, 0, 0, 0, 0), (.getfield 15, 3, 4, 0, 2, 0), (.getfield 79, 3, 9, 4, 2, 0), (.iload_n 1, 1, 0, 0, 0, 0)]
theorem sk_20_0 : segB 4 false prog_6_method_5_code 0 sg_20_0 = true := by decide +kernel
def sg_20_12 : List RI := [(.iconst 0, 1, 0, 0, 0, 0)]
theorem sk_20_12 : segB 4 false prog_6_method_5_code 12 sg_20_12 = true := by decide +kernel
def sg_20_14 : List RI := [(.aload_n 0, 1, 0, 0, 0, 0), (.dup, 1, 0, 0, 0, 0), (.getfield 29, 3, 4, 3, 0, 0), (.iconst 1, 1, 0, 0, 0, 1), (.isub, 1, 0, 0, 0, 0), (.putfield 29, 3, 4, 3, 0, 0), (.aload_n 0, 1, 0, 0, 0, 0), (.aload_n 0, 1, 0, 0, 0, 0), (.getfield 29, 3, 4, 3, 0, 0)]
theorem sk_20_14 : segB 4 false prog_6_method_5_code 14 sg_20_14 = true := by decide +kernel
def sg_20_32 : List RI := [(.iconst 2, 1, 0, 0, 0, 2)]
theorem sk_20_32 : segB 4 false prog_6_method_5_code 32 sg_20_32 = true := by decide +kernel
def sg_20_36 : List RI := [(.iconst 1, 1, 0, 0, 0, 1)]
theorem sk_20_36 : segB 4 false prog_6_method_5_code 36 sg_20_36 = true := by decide +kernel
def sg_20_37 : List RI := [(.putfield 32, 3, 4, 4, 0, 0), (.iconst (-1), 1, 0, 0, 0, -1)]
theorem sk_20_37 : segB 4 false prog_6_method_5_code 37 sg_20_37 = true := by decide +kernel
theorem ca_20_8 : decode prog_6_method_5_code 8 = .ok (.iaload, 1) ∧ lnkB 4 false 8 (.iaload, 1, 0, 0, 0, 0) = true := by decide +kernel
theorem ck_20_9 : decode prog_6_method_5_code 9 = .ok (.ifCond .ne 5, 3) ∧ lnkB 4 false 9 (.ifCond .ne 5, 3, 14, 0, 0, 0) = true := by decide +kernel
theorem ck_20_13 : decode prog_6_method_5_code 13 = .ok (.ireturn, 1) ∧ lnkB 4 false 13 (.ireturn, 1, 0, 0, 0, 0) = true := by decide +kernel
theorem ck_20_29 : decode prog_6_method_5_code 29 = .ok (.ifCond .ne 7, 3) ∧ lnkB 4 false 29 (.ifCond .ne 7, 3, 36, 0, 0, 0) = true := by decide +kernel
theorem ck_20_33 : decode prog_6_method_5_code 33 = .ok (.goto 4, 3) ∧ lnkB 4 false 33 (.goto 4, 3, 37, 0, 0, 0) = true := by decide +kernel
theorem ck_20_41 : decode prog_6_method_5_code 41 = .ok (.ireturn, 1) ∧ lnkB 4 false 41 (.ireturn, 1, 0, 0, 0, 0) = true := by decide +kernel
abbrev RU_20 (d : Nat) (cp : Nat × Nat) (Post : Option Value → Sto → Prop) : PP := Runs (Ex d) prog_6_method_5_code 4 false 2 (some .int) none cp Post
theorem en_20 {d : Nat} {As : List Value} {S : Sto} {mc ms : Nat} {Post : Option Value → Sto → Prop} (hc : cats As ≤ 2) (h : RU_20 d (mc, ms) Post 0 (lv_args 0 As) [] S 0 0) : Ex (d + 1) 20 As S mc ms Post := ⟨by decide, hc, h⟩
def sg_21_0 : List RI := [(.aload_n 0, 1, 0, 0, 0, 0), (.getfield 15, 3, 4, 0, 2, 0), (.getfield 79, 3, 9, 4, 2, 0), (.iload_n 1, 1, 0, 0, 0, 0)]
theorem sk_21_0 : segB 4 false prog_6_method_6_code 0 sg_21_0 = true := by decide +kernel
def sg_21_9 : List RI := [(.bipush 6, 2, 0, 0, 0, 6)]
theorem sk_21_9 : segB 4 false prog_6_method_6_code 9 sg_21_9 = true := by decide +kernel
def sg_21_14 : List RI := [(.iconst 2, 1, 0, 0, 0, 2)]
theorem sk_21_14 : segB 4 false prog_6_method_6_code 14 sg_21_14 = true := by decide +kernel
def sg_21_16 : List RI := [(.iload_n 1, 1, 0, 0, 0, 0), (.bipush 6, 2, 0, 0, 0, 6), (.imul, 1, 0, 0, 0, 0), (.aload_n 0, 1, 0, 0, 0, 0), (.getfield 15, 3, 4, 0, 2, 0), (.getfield 79, 3, 9, 4, 2, 0), (.iload_n 1, 1, 0, 0, 0, 0)]
theorem sk_21_16 : segB 4 false prog_6_method_6_code 16 sg_21_16 = true := by decide +kernel
def sg_21_29 : List RI := [(.iadd, 1, 0, 0, 0, 0), (.istore_n 3, 1, 0, 0, 0, 0), (.aload_n 0, 1, 0, 0, 0, 0), (.getfield 15, 3, 4, 0, 2, 0), (.getfield 79, 3, 9, 4, 2, 0), (.iload_n 1, 1, 0, 0, 0, 0), (.dup2, 1, 0, 0, 0, 0)]
theorem sk_21_29 : segB 4 false prog_6_method_6_code 29 sg_21_29 = true := by decide +kernel
def sg_21_41 : List RI := [(.iconst 1, 1, 0, 0, 0, 1), (.iadd, 1, 0, 0, 0, 0)]
theorem sk_21_41 : segB 4 false prog_6_method_6_code 41 sg_21_41 = true := by decide +kernel
def sg_21_44 : List RI := [(.aload_n 0, 1, 0, 0, 0, 0), (.getfield 15, 3, 4, 0, 2, 0), (.getfield 87, 3, 9, 5, 2, 0), (.iload_n 3, 1, 0, 0, 0, 0), (.iload_n 2, 1, 0, 0, 0, 0)]
theorem sk_21_44 : segB 4 false prog_6_method_6_code 44 sg_21_44 = true := by decide +kernel
def sg_21_54 : List RI := [(.aload_n 0, 1, 0, 0, 0, 0), (.getfield 15, 3, 4, 0, 2, 0), (.getfield 84, 3, 9, 6, 2, 0), (.iload_n 3, 1, 0, 0, 0, 0), (.iconst (-1), 1, 0, 0, 0, -1)]
theorem sk_21_54 : segB 4 false prog_6_method_6_code 54 sg_21_54 = true := by decide +kernel
def sg_21_64 : List RI := [(.aload_n 0, 1, 0, 0, 0, 0), (.getfield 15, 3, 4, 0, 2, 0), (.getfield 70, 3, 9, 0, 2, 0), (.iload_n 1, 1, 0, 0, 0, 0)]
theorem sk_21_64 : segB 4 false prog_6_method_6_code 64 sg_21_64 = true := by decide +kernel
def sg_21_73 : List RI := [(.iconst 4, 1, 0, 0, 0, 4), (.imul, 1, 0, 0, 0, 0), (.iload_n 2, 1, 0, 0, 0, 0), (.iadd, 1, 0, 0, 0, 0), (.istore 4, 2, 0, 0, 0, 0), (.aload_n 0, 1, 0, 0, 0, 0), (.getfield 19, 3, 4, 1, 2, 0), (.getfield 90, 3, 6, 3, 2, 0), (.iload 4, 2, 0, 0, 0, 0)]
theorem sk_21_73 : segB 4 false prog_6_method_6_code 73 sg_21_73 = true := by decide +kernel
def sg_21_92 : List RI := [(.aload_n 0, 1, 0, 0, 0, 0), (.getfield 19, 3, 4, 1, 2, 0), (.getfield 90, 3, 6, 3, 2, 0), (.iload 4, 2, 0, 0, 0, 0)]
theorem sk_21_92 : segB 4 false prog_6_method_6_code 92 sg_21_92 = true := by decide +kernel
def sg_21_102 : List RI := [(.iconst 2, 1, 0, 0, 0, 2)]
theorem sk_21_102 : segB 4 false prog_6_method_6_code 102 sg_21_102 = true := by decide +kernel
def sg_21_106 : List RI := [(.iconst 1, 1, 0, 0, 0, 1)]
theorem sk_21_106 : segB 4 false prog_6_method_6_code 106 sg_21_106 = true := by decide +kernel
def sg_21_110 : List RI := [(.iconst 0, 1, 0, 0, 0, 0)]
theorem sk_21_110 : segB 4 false prog_6_method_6_code 110 sg_21_110 = true := by decide +kernel
def sg_21_111 : List RI := [(.istore 5, 2, 0, 0, 0, 0), (.aload_n 0, 1, 0, 0, 0, 0), (.aload_n 0, 1, 0, 0, 0, 0), (.getfield 19, 3, 4, 1, 2, 0), (.getfield 95, 3, 6, 4, 2, 0), (.iload 4, 2, 0, 0, 0, 0)]
theorem sk_21_111 : segB 4 false prog_6_method_6_code 111 sg_21_111 = true := by decide +kernel
def sg_21_124 : List RI := [(.putfield 35, 3, 4, 5, 0, 0), (.aload_n 0, 1, 0, 0, 0, 0), (.aload_n 0, 1, 0, 0, 0, 0), (.getfield 15, 3, 4, 0, 2, 0), (.getfield 73, 3, 9, 2, 2, 0), (.iload_n 1, 1, 0, 0, 0, 0)]
theorem sk_21_124 : segB 4 false prog_6_method_6_code 124 sg_21_124 = true := by decide +kernel
def sg_21_137 : List RI := [(.iload 5, 2, 0, 0, 0, 0)]
theorem sk_21_137 : segB 4 false prog_6_method_6_code 137 sg_21_137 = true := by decide +kernel
def sg_21_142 : List RI := [(.aload_n 0, 1, 0, 0, 0, 0), (.getfield 19, 3, 4, 1, 2, 0), (.getfield 98, 3, 6, 5, 2, 0), (.iload 4, 2, 0, 0, 0, 0)]
theorem sk_21_142 : segB 4 false prog_6_method_6_code 142 sg_21_142 = true := by decide +kernel
def sg_21_155 : List RI := [(.iconst 1, 1, 0, 0, 0, 1)]
theorem sk_21_155 : segB 4 false prog_6_method_6_code 155 sg_21_155 = true := by decide +kernel
def sg_21_156 : List RI := [(.imul, 1, 0, 0, 0, 0), (.putfield 38, 3, 4, 6, 0, 0), (.aload_n 0, 1, 0, 0, 0, 0), (.iload_n 3, 1, 0, 0, 0, 0), (.putfield 41, 3, 4, 7, 0, 0), (.aload_n 0, 1, 0, 0, 0, 0), (.iconst 0, 1, 0, 0, 0, 0), (.putfield 32, 3, 4, 4, 0, 0)]
theorem sk_21_156 : segB 4 false prog_6_method_6_code 156 sg_21_156 = true := by decide +kernel
def sg_21_170 : List RI := [(.iconst (-1), 1, 0, 0, 0, -1)]
theorem sk_21_170 : segB 4 false prog_6_method_6_code 170 sg_21_170 = true := by decide +kernel
theorem ca_21_8 : decode prog_6_method_6_code 8 = .ok (.iaload, 1) ∧ lnkB 4 false 8 (.iaload, 1, 0, 0, 0, 0) = true := by decide +kernel
theorem ck_21_11 : decode prog_6_method_6_code 11 = .ok (.if_icmp .lt 5, 3) ∧ lnkB 4 false 11 (.if_icmp .lt 5, 3, 16, 0, 0, 0) = true := by decide +kernel
theorem ck_21_15 : decode prog_6_method_6_code 15 = .ok (.ireturn, 1) ∧ lnkB 4 false 15 (.ireturn, 1, 0, 0, 0, 0) = true := by decide +kernel
theorem ca_21_28 : decode prog_6_method_6_code 28 = .ok (.iaload, 1) ∧ lnkB 4 false 28 (.iaload, 1, 0, 0, 0, 0) = true := by decide +kernel
theorem ca_21_40 : decode prog_6_method_6_code 40 = .ok (.iaload, 1) ∧ lnkB 4 false 40 (.iaload, 1, 0, 0, 0, 0) = true := by decide +kernel
theorem ca_21_43 : decode prog_6_method_6_code 43 = .ok (.iastore, 1) ∧ lnkB 4 false 43 (.iastore, 1, 0, 0, 0, 0) = true := by decide +kernel
theorem ca_21_53 : decode prog_6_method_6_code 53 = .ok (.iastore, 1) ∧ lnkB 4 false 53 (.iastore, 1, 0, 0, 0, 0) = true := by decide +kernel
theorem ca_21_63 : decode prog_6_method_6_code 63 = .ok (.iastore, 1) ∧ lnkB 4 false 63 (.iastore, 1, 0, 0, 0, 0) = true := by decide +kernel
theorem ca_21_72 : decode prog_6_method_6_code 72 = .ok (.iaload, 1) ∧ lnkB 4 false 72 (.iaload, 1, 0, 0, 0, 0) = true := by decide +kernel
theorem ca_21_88 : decode prog_6_method_6_code 88 = .ok (.iaload, 1) ∧ lnkB 4 false 88 (.iaload, 1, 0, 0, 0, 0) = true := by decide +kernel
theorem ck_21_89 : decode prog_6_method_6_code 89 = .ok (.ifCond .eq 81, 3) ∧ lnkB 4 false 89 (.ifCond .eq 81, 3, 170, 0, 0, 0) = true := by decide +kernel
theorem ca_21_101 : decode prog_6_method_6_code 101 = .ok (.iaload, 1) ∧ lnkB 4 false 101 (.iaload, 1, 0, 0, 0, 0) = true := by decide +kernel
theorem ck_21_103 : decode prog_6_method_6_code 103 = .ok (.if_icmp .ne 7, 3) ∧ lnkB 4 false 103 (.if_icmp .ne 7, 3, 110, 0, 0, 0) = true := by decide +kernel
theorem ck_21_107 : decode prog_6_method_6_code 107 = .ok (.goto 4, 3) ∧ lnkB 4 false 107 (.goto 4, 3, 111, 0, 0, 0) = true := by decide +kernel
theorem ca_21_123 : decode prog_6_method_6_code 123 = .ok (.iaload, 1) ∧ lnkB 4 false 123 (.iaload, 1, 0, 0, 0, 0) = true := by decide +kernel
theorem ca_21_136 : decode prog_6_method_6_code 136 = .ok (.iaload, 1) ∧ lnkB 4 false 136 (.iaload, 1, 0, 0, 0, 0) = true := by decide +kernel
theorem ck_21_139 : decode prog_6_method_6_code 139 = .ok (.ifCond .eq 16, 3) ∧ lnkB 4 false 139 (.ifCond .eq 16, 3, 155, 0, 0, 0) = true := by decide +kernel
theorem ca_21_151 : decode prog_6_method_6_code 151 = .ok (.iaload, 1) ∧ lnkB 4 false 151 (.iaload, 1, 0, 0, 0, 0) = true := by decide +kernel
theorem ck_21_152 : decode prog_6_method_6_code 152 = .ok (.goto 4, 3) ∧ lnkB 4 false 152 (.goto 4, 3, 156, 0, 0, 0) = true := by decide +kernel
theorem ck_21_171 : decode prog_6_method_6_code 171 = .ok (.ireturn, 1) ∧ lnkB 4 false 171 (.ireturn, 1, 0, 0, 0, 0) = true := by decide +kernel
abbrev RU_21 (d : Nat) (cp : Nat × Nat) (Post : Option Value → Sto → Prop) : PP := Runs (Ex d) prog_6_method_6_code 4 false 6 (some .int) none cp Post
theorem en_21 {d : Nat} {As : List Value} {S : Sto} {mc ms : Nat} {Post : Option Value → Sto → Prop} (hc : cats As ≤ 6) (h : RU_21 d (mc, ms) Post 0 (lv_args 0 As) [] S 0 0) : Ex (d + 1) 21 As S mc ms Post := ⟨by decide, hc, h⟩
def sg_22_0 : List RI := [(.aload_n 0, 1, 0, 0, 0, 0), (.invokespecial 3, 3, 0, 4, 0, 0), (.aload_n 0, 1, 0, 0, 0, 0), (.sipush 192, 3, 0, 0, 0, 192), (.newarray .int, 2, 13, 0, 0, 0), (.putfield 9, 3, 5, 0, 2, 0), (.aload_n 0, 1, 0, 0, 0, 0), (.sipush 192, 3, 0, 0, 0, 192), (.newarray .int, 2, 13, 0, 0, 0), (.putfield 15, 3, 5, 7, 2, 0), (.aload_n 0, 1, 0, 0, 0, 0), (.sipush 192, 3, 0, 0, 0, 192), (.newarray .int, 2, 13, 0, 0, 0), (.putfield 18, 3, 5, 8, 2, 0), (.aload_n 0, 1, 0, 0, 0, 0), (.iconst 5, 1, 0, 0, 0, 5), (.newarray .int, 2, 13, 0, 0, 0), (.putfield 21, 3, 5, 10, 2, 0), (.aload_n 0, 1, 0, 0, 0, 0), (.aload_n 1, 1, 0, 0, 0, 0), (.putfield 24, 3, 5, 2, 2, 0), (.aload_n 0, 1, 0, 0, 0, 0), (.aload_n 2, 1, 0, 0, 0, 0), (.putfield 28, 3, 5, 3, 2, 0), (.aload_n 0, 1, 0, 0, 0, 0), (.aload_n 3, 1, 0, 0, 0, 0), (.putfield 32, 3, 5, 4, 2, 0), (.aload_n 0, 1, 0, 0, 0, 0), (.aload 4, 2, 0, 0, 0, 0), (.putfield 36, 3, 5, 5, 2, 0), (.aload_n 0, 1, 0, 0, 0, 0), (.aload 5, 2, 0, 0, 0, 0), (.putfield 40, 3, 5, 6, 2, 0)]
theorem sk_22_0 : segB 5 true prog_7_method_1_code 0 sg_22_0 = true := by decide +kernel
theorem ck_22_65 : decode prog_7_method_1_code 65 = .ok (.return_, 1) ∧ lnkB 5 true 65 (.return_, 1, 0, 0, 0, 0) = true := by decide +kernel
abbrev RU_22 (d : Nat) (cp : Nat × Nat) (Post : Option Value → Sto → Prop) : PP := Runs (Ex d) prog_7_method_1_code 5 true 6 none none cp Post
theorem en_22 {d : Nat} {As : List Value} {S : Sto} {mc ms : Nat} {Post : Option Value → Sto → Prop} (hc : cats As ≤ 6) (h : RU_22 d (mc, ms) Post 0 (lv_args 0 As) [] S 0 0) : Ex (d + 1) 22 As S mc ms Post := ⟨by decide, hc, h⟩
def sg_23_0 : List RI := [(.aload_n 0, 1, 0, 0, 0, 0)]
theorem sk_23_0 : segB 5 false prog_7_method_2_code 0 sg_23_0 = true := by decide +kernel
def sg_23_4 : List RI := [(.aload_n 0, 1, 0, 0, 0, 0), (.iload_n 3, 1, 0, 0, 0, 0), (.putfield 47, 3, 5, 11, 0, 0), (.aload_n 0, 1, 0, 0, 0, 0), (.iconst 0, 1, 0, 0, 0, 0), (.iload_n 1, 1, 0, 0, 0, 0), (.iconst 1, 1, 0, 0, 0, 1)]
theorem sk_23_4 : segB 5 false prog_7_method_2_code 4 sg_23_4 = true := by decide +kernel
def sg_23_16 : List RI := [(.iconst 0, 1, 0, 0, 0, 0), (.istore 4, 2, 0, 0, 0, 0)]
theorem sk_23_16 : segB 5 false prog_7_method_2_code 16 sg_23_16 = true := by decide +kernel
def sg_23_19 : List RI := [(.iload 4, 2, 0, 0, 0, 0), (.iload_n 2, 1, 0, 0, 0, 0)]
theorem sk_23_19 : segB 5 false prog_7_method_2_code 19 sg_23_19 = true := by decide +kernel
def sg_23_25 : List RI := [(.aload_n 0, 1, 0, 0, 0, 0)]
theorem sk_23_25 : segB 5 false prog_7_method_2_code 25 sg_23_25 = true := by decide +kernel
def sg_23_29 : List RI := [(.aload_n 0, 1, 0, 0, 0, 0)]
theorem sk_23_29 : segB 5 false prog_7_method_2_code 29 sg_23_29 = true := by decide +kernel
def sg_23_37 : List RI := [(.aload_n 0, 1, 0, 0, 0, 0), (.getfield 24, 3, 5, 2, 2, 0), (.iconst 1, 1, 0, 0, 0, 1)]
theorem sk_23_37 : segB 5 false prog_7_method_2_code 37 sg_23_37 = true := by decide +kernel
def sg_23_45 : List RI := [(.aload_n 0, 1, 0, 0, 0, 0)]
theorem sk_23_45 : segB 5 false prog_7_method_2_code 45 sg_23_45 = true := by decide +kernel
def sg_23_49 : List RI := [(.iinc 4 1, 3, 0, 0, 0, 1)]
theorem sk_23_49 : segB 5 false prog_7_method_2_code 49 sg_23_49 = true := by decide +kernel
def sg_23_55 : List RI := [(.aload_n 0, 1, 0, 0, 0, 0)]
theorem sk_23_55 : segB 5 false prog_7_method_2_code 55 sg_23_55 = true := by decide +kernel
theorem ck_23_1 : decode prog_7_method_2_code 1 = .ok (.invokevirtual 44, 3) ∧ lnkB 5 false 1 (.invokevirtual 44, 3, 24, 0, 0, 0) = true := by decide +kernel
theorem ck_23_13 : decode prog_7_method_2_code 13 = .ok (.invokevirtual 51, 3) ∧ lnkB 5 false 13 (.invokevirtual 51, 3, 25, 0, 0, 0) = true := by decide +kernel
theorem ck_23_22 : decode prog_7_method_2_code 22 = .ok (.if_icmp .ge 33, 3) ∧ lnkB 5 false 22 (.if_icmp .ge 33, 3, 55, 0, 0, 0) = true := by decide +kernel
theorem ck_23_26 : decode prog_7_method_2_code 26 = .ok (.invokevirtual 55, 3) ∧ lnkB 5 false 26 (.invokevirtual 55, 3, 28, 0, 0, 0) = true := by decide +kernel
theorem ck_23_30 : decode prog_7_method_2_code 30 = .ok (.invokevirtual 58, 3) ∧ lnkB 5 false 30 (.invokevirtual 58, 3, 32, 0, 0, 0) = true := by decide +kernel
theorem ck_23_33 : decode prog_7_method_2_code 33 = .ok (.ifCond .eq 4, 3) ∧ lnkB 5 false 33 (.ifCond .eq 4, 3, 37, 0, 0, 0) = true := by decide +kernel
theorem ck_23_36 : decode prog_7_method_2_code 36 = .ok (.return_, 1) ∧ lnkB 5 false 36 (.return_, 1, 0, 0, 0, 0) = true := by decide +kernel
theorem ck_23_42 : decode prog_7_method_2_code 42 = .ok (.invokevirtual 62, 3) ∧ lnkB 5 false 42 (.invokevirtual 62, 3, 7, 0, 0, 0) = true := by decide +kernel
theorem ck_23_46 : decode prog_7_method_2_code 46 = .ok (.invokevirtual 68, 3) ∧ lnkB 5 false 46 (.invokevirtual 68, 3, 33, 0, 0, 0) = true := by decide +kernel
theorem ck_23_52 : decode prog_7_method_2_code 52 = .ok (.goto (-33), 3) ∧ lnkB 5 false 52 (.goto (-33), 3, 19, 0, 0, 0) = true := by decide +kernel
theorem ck_23_56 : decode prog_7_method_2_code 56 = .ok (.invokevirtual 71, 3) ∧ lnkB 5 false 56 (.invokevirtual 71, 3, 36, 0, 0, 0) = true := by decide +kernel
theorem ck_23_59 : decode prog_7_method_2_code 59 = .ok (.return_, 1) ∧ lnkB 5 false 59 (.return_, 1, 0, 0, 0, 0) = true := by decide +kernel
abbrev RU_23 (d : Nat) (cp : Nat × Nat) (Post : Option Value → Sto → Prop) : PP := Runs (Ex d) prog_7_method_2_code 5 false 5 none none cp Post
theorem en_23 {d : Nat} {As : List Value} {S : Sto} {mc ms : Nat} {Post : Option Value → Sto → Prop} (hc : cats As ≤ 5) (h : RU_23 d (mc, ms) Post 0 (lv_args 0 As) [] S 0 0) : Ex (d + 1) 23 As S mc ms Post := ⟨by decide, hc, h⟩
def sg_24_0 : List RI := [(.aload_n 0, 1, 0, 0, 0, 0), (.getfield 9, 3, 5, 0, 2, 0), (.iconst 0, 1, 0, 0, 0, 0)]
theorem sk_24_0 : segB 5 false prog_7_method_4_code 0 sg_24_0 = true := by decide +kernel
def sg_24_8 : List RI := [(.aload_n 0, 1, 0, 0, 0, 0), (.getfield 15, 3, 5, 7, 2, 0), (.iconst 0, 1, 0, 0, 0, 0)]
theorem sk_24_8 : segB 5 false prog_7_method_4_code 8 sg_24_8 = true := by decide +kernel
def sg_24_16 : List RI := [(.aload_n 0, 1, 0, 0, 0, 0), (.getfield 21, 3, 5, 10, 2, 0), (.iconst 0, 1, 0, 0, 0, 0)]
theorem sk_24_16 : segB 5 false prog_7_method_4_code 16 sg_24_16 = true := by decide +kernel
def sg_24_24 : List RI := [(.aload_n 0, 1, 0, 0, 0, 0), (.iconst 0, 1, 0, 0, 0, 0), (.putfield 84, 3, 5, 1, 0, 0), (.aload_n 0, 1, 0, 0, 0, 0), (.iconst 0, 1, 0, 0, 0, 0), (.putfield 87, 3, 5, 9, 0, 0), (.aload_n 0, 1, 0, 0, 0, 0), (.getfield 40, 3, 5, 6, 2, 0)]
theorem sk_24_24 : segB 5 false prog_7_method_4_code 24 sg_24_24 = true := by decide +kernel
theorem ck_24_5 : decode prog_7_method_4_code 5 = .ok (.invokestatic 78, 3) ∧ lnkB 5 false 5 (.invokestatic 78, 3, 130, 0, 0, 0) = true := by decide +kernel
theorem ck_24_13 : decode prog_7_method_4_code 13 = .ok (.invokestatic 78, 3) ∧ lnkB 5 false 13 (.invokestatic 78, 3, 130, 0, 0, 0) = true := by decide +kernel
theorem ck_24_21 : decode prog_7_method_4_code 21 = .ok (.invokestatic 78, 3) ∧ lnkB 5 false 21 (.invokestatic 78, 3, 130, 0, 0, 0) = true := by decide +kernel
theorem ck_24_38 : decode prog_7_method_4_code 38 = .ok (.invokevirtual 90, 3) ∧ lnkB 5 false 38 (.invokevirtual 90, 3, 1, 0, 0, 0) = true := by decide +kernel
theorem ck_24_41 : decode prog_7_method_4_code 41 = .ok (.return_, 1) ∧ lnkB 5 false 41 (.return_, 1, 0, 0, 0, 0) = true := by decide +kernel
abbrev RU_24 (d : Nat) (cp : Nat × Nat) (Post : Option Value → Sto → Prop) : PP := Runs (Ex d) prog_7_method_4_code 5 false 1 none none cp Post
theorem en_24 {d : Nat} {As : List Value} {S : Sto} {mc ms : Nat} {Post : Option Value → Sto → Prop} (hc : cats As ≤ 1) (h : RU_24 d (mc, ms) Post 0 (lv_args 0 As) [] S 0 0) : Ex (d + 1) 24 As S mc ms Post := ⟨by decide, hc, h⟩
def sg_25_0 : List RI := [(.iload_n 3, 1, 0, 0, 0, 0), (.iconst 5, 1, 0, 0, 0, 5)]
theorem sk_25_0 : segB 5 false prog_7_method_6_code 0 sg_25_0 = true := by decide +kernel
def sg_25_5 : List RI := [(.iload_n 1, 1, 0, 0, 0, 0), (.iconst (-1), 1, 0, 0, 0, -1)]
theorem sk_25_5 : segB 5 false prog_7_method_6_code 5 sg_25_5 = true := by decide +kernel
def sg_25_11 : List RI := [(.iconst 1, 1, 0, 0, 0, 1), (.iload_n 1, 1, 0, 0, 0, 0), (.ishl, 1, 0, 0, 0, 0), (.istore 4, 2, 0, 0, 0, 0), (.aload_n 0, 1, 0, 0, 0, 0), (.getfield 15, 3, 5, 7, 2, 0), (.iload_n 2, 1, 0, 0, 0, 0)]
theorem sk_25_11 : segB 5 false prog_7_method_6_code 11 sg_25_11 = true := by decide +kernel
def sg_25_22 : List RI := [(.iload 4, 2, 0, 0, 0, 0), (.iand, 1, 0, 0, 0, 0)]
theorem sk_25_22 : segB 5 false prog_7_method_6_code 22 sg_25_22 = true := by decide +kernel
def sg_25_29 : List RI := [(.aload_n 0, 1, 0, 0, 0, 0), (.getfield 15, 3, 5, 7, 2, 0), (.iload_n 2, 1, 0, 0, 0, 0), (.dup2, 1, 0, 0, 0, 0)]
theorem sk_25_29 : segB 5 false prog_7_method_6_code 29 sg_25_29 = true := by decide +kernel
def sg_25_36 : List RI := [(.iload 4, 2, 0, 0, 0, 0), (.ior, 1, 0, 0, 0, 0)]
theorem sk_25_36 : segB 5 false prog_7_method_6_code 36 sg_25_36 = true := by decide +kernel
def sg_25_40 : List RI := [(.aload_n 0, 1, 0, 0, 0, 0), (.getfield 9, 3, 5, 0, 2, 0), (.iload_n 2, 1, 0, 0, 0, 0)]
theorem sk_25_40 : segB 5 false prog_7_method_6_code 40 sg_25_40 = true := by decide +kernel
def sg_25_49 : List RI := [(.aload_n 0, 1, 0, 0, 0, 0), (.iload_n 2, 1, 0, 0, 0, 0)]
theorem sk_25_49 : segB 5 false prog_7_method_6_code 49 sg_25_49 = true := by decide +kernel
def sg_25_54 : List RI := [(.aload_n 0, 1, 0, 0, 0, 0), (.getfield 9, 3, 5, 0, 2, 0), (.iload_n 2, 1, 0, 0, 0, 0)]
theorem sk_25_54 : segB 5 false prog_7_method_6_code 54 sg_25_54 = true := by decide +kernel
def sg_25_60 : List RI := [(.bipush 10, 2, 0, 0, 0, 10)]
theorem sk_25_60 : segB 5 false prog_7_method_6_code 60 sg_25_60 = true := by decide +kernel
def sg_25_65 : List RI := [(.aload_n 0, 1, 0, 0, 0, 0), (.iload_n 1, 1, 0, 0, 0, 0), (.iload_n 2, 1, 0, 0, 0, 0), (.iload_n 3, 1, 0, 0, 0, 0)]
theorem sk_25_65 : segB 5 false prog_7_method_6_code 65 sg_25_65 = true := by decide +kernel
theorem ck_25_2 : decode prog_7_method_6_code 2 = .ok (.if_icmp .gt 8, 3) ∧ lnkB 5 false 2 (.if_icmp .gt 8, 3, 10, 0, 0, 0) = true := by decide +kernel
theorem ck_25_7 : decode prog_7_method_6_code 7 = .ok (.if_icmp .ne 4, 3) ∧ lnkB 5 false 7 (.if_icmp .ne 4, 3, 11, 0, 0, 0) = true := by decide +kernel
theorem ck_25_10 : decode prog_7_method_6_code 10 = .ok (.return_, 1) ∧ lnkB 5 false 10 (.return_, 1, 0, 0, 0, 0) = true := by decide +kernel
theorem ca_25_21 : decode prog_7_method_6_code 21 = .ok (.iaload, 1) ∧ lnkB 5 false 21 (.iaload, 1, 0, 0, 0, 0) = true := by decide +kernel
theorem ck_25_25 : decode prog_7_method_6_code 25 = .ok (.ifCond .eq 4, 3) ∧ lnkB 5 false 25 (.ifCond .eq 4, 3, 29, 0, 0, 0) = true := by decide +kernel
theorem ck_25_28 : decode prog_7_method_6_code 28 = .ok (.return_, 1) ∧ lnkB 5 false 28 (.return_, 1, 0, 0, 0, 0) = true := by decide +kernel
theorem ca_25_35 : decode prog_7_method_6_code 35 = .ok (.iaload, 1) ∧ lnkB 5 false 35 (.iaload, 1, 0, 0, 0, 0) = true := by decide +kernel
theorem ca_25_39 : decode prog_7_method_6_code 39 = .ok (.iastore, 1) ∧ lnkB 5 false 39 (.iastore, 1, 0, 0, 0, 0) = true := by decide +kernel
theorem ca_25_45 : decode prog_7_method_6_code 45 = .ok (.iaload, 1) ∧ lnkB 5 false 45 (.iaload, 1, 0, 0, 0, 0) = true := by decide +kernel
theorem ck_25_46 : decode prog_7_method_6_code 46 = .ok (.ifCond .ne 8, 3) ∧ lnkB 5 false 46 (.ifCond .ne 8, 3, 54, 0, 0, 0) = true := by decide +kernel
theorem ck_25_51 : decode prog_7_method_6_code 51 = .ok (.invokevirtual 99, 3) ∧ lnkB 5 false 51 (.invokevirtual 99, 3, 26, 0, 0, 0) = true := by decide +kernel
theorem ca_25_59 : decode prog_7_method_6_code 59 = .ok (.iaload, 1) ∧ lnkB 5 false 59 (.iaload, 1, 0, 0, 0, 0) = true := by decide +kernel
theorem ck_25_62 : decode prog_7_method_6_code 62 = .ok (.if_icmp .ne 10, 3) ∧ lnkB 5 false 62 (.if_icmp .ne 10, 3, 72, 0, 0, 0) = true := by decide +kernel
theorem ck_25_69 : decode prog_7_method_6_code 69 = .ok (.invokevirtual 102, 3) ∧ lnkB 5 false 69 (.invokevirtual 102, 3, 27, 0, 0, 0) = true := by decide +kernel
theorem ck_25_72 : decode prog_7_method_6_code 72 = .ok (.return_, 1) ∧ lnkB 5 false 72 (.return_, 1, 0, 0, 0, 0) = true := by decide +kernel
abbrev RU_25 (d : Nat) (cp : Nat × Nat) (Post : Option Value → Sto → Prop) : PP := Runs (Ex d) prog_7_method_6_code 5 false 5 none none cp Post
theorem en_25 {d : Nat} {As : List Value} {S : Sto} {mc ms : Nat} {Post : Option Value → Sto → Prop} (hc : cats As ≤ 5) (h : RU_25 d (mc, ms) Post 0 (lv_args 0 As) [] S 0 0) : Ex (d + 1) 25 As S mc ms Post := ⟨by decide, hc, h⟩
def sg_26_0 : List RI := [(.iload_n 1, 1, 0, 0, 0, 0), (.bipush 32, 2, 0, 0, 0, 32), (.idiv, 1, 0, 0, 0, 0), (.istore_n 2, 1, 0, 0, 0, 0), (.aload_n 0, 1, 0, 0, 0, 0), (.getfield 47, 3, 5, 11, 0, 0), (.iload_n 2, 1, 0, 0, 0, 0), (.ishr, 1, 0, 0, 0, 0), (.iconst 1, 1, 0, 0, 0, 1), (.iand, 1, 0, 0, 0, 0)]
theorem sk_26_0 : segB 5 false prog_7_method_8_code 0 sg_26_0 = true := by decide +kernel
def sg_26_16 : List RI := [(.aload_n 0, 1, 0, 0, 0, 0), (.getfield 9, 3, 5, 0, 2, 0), (.iload_n 1, 1, 0, 0, 0, 0), (.iconst 1, 1, 0, 0, 0, 1)]
theorem sk_26_16 : segB 5 false prog_7_method_8_code 16 sg_26_16 = true := by decide +kernel
def sg_26_26 : List RI := [(.aload_n 0, 1, 0, 0, 0, 0), (.getfield 32, 3, 5, 4, 2, 0), (.getfield 126, 3, 6, 8, 2, 0), (.iload_n 1, 1, 0, 0, 0, 0)]
theorem sk_26_26 : segB 5 false prog_7_method_8_code 26 sg_26_26 = true := by decide +kernel
def sg_26_35 : List RI := [(.aload_n 0, 1, 0, 0, 0, 0), (.getfield 24, 3, 5, 2, 2, 0), (.getfield 129, 3, 1, 4, 0, 0)]
theorem sk_26_35 : segB 5 false prog_7_method_8_code 35 sg_26_35 = true := by decide +kernel
def sg_26_45 : List RI := [(.aload_n 0, 1, 0, 0, 0, 0), (.getfield 9, 3, 5, 0, 2, 0), (.iload_n 1, 1, 0, 0, 0, 0), (.bipush 10, 2, 0, 0, 0, 10)]
theorem sk_26_45 : segB 5 false prog_7_method_8_code 45 sg_26_45 = true := by decide +kernel
def sg_26_56 : List RI := [(.aload_n 0, 1, 0, 0, 0, 0), (.getfield 84, 3, 5, 1, 0, 0), (.sipush 192, 3, 0, 0, 0, 192)]
theorem sk_26_56 : segB 5 false prog_7_method_8_code 56 sg_26_56 = true := by decide +kernel
def sg_26_66 : List RI := [(.aload_n 0, 1, 0, 0, 0, 0), (.getfield 9, 3, 5, 0, 2, 0), (.iload_n 1, 1, 0, 0, 0, 0), (.bipush 11, 2, 0, 0, 0, 11)]
theorem sk_26_66 : segB 5 false prog_7_method_8_code 66 sg_26_66 = true := by decide +kernel
def sg_26_74 : List RI := [(.aload_n 0, 1, 0, 0, 0, 0), (.getfield 18, 3, 5, 8, 2, 0), (.aload_n 0, 1, 0, 0, 0, 0), (.getfield 84, 3, 5, 1, 0, 0), (.iload_n 1, 1, 0, 0, 0, 0)]
theorem sk_26_74 : segB 5 false prog_7_method_8_code 74 sg_26_74 = true := by decide +kernel
def sg_26_84 : List RI := [(.aload_n 0, 1, 0, 0, 0, 0), (.dup, 1, 0, 0, 0, 0), (.getfield 84, 3, 5, 1, 0, 0), (.iconst 1, 1, 0, 0, 0, 1), (.iadd, 1, 0, 0, 0, 0), (.putfield 84, 3, 5, 1, 0, 0), (.aload_n 0, 1, 0, 0, 0, 0), (.getfield 21, 3, 5, 10, 2, 0), (.aload_n 0, 1, 0, 0, 0, 0), (.getfield 32, 3, 5, 4, 2, 0), (.getfield 132, 3, 6, 0, 2, 0), (.iload_n 2, 1, 0, 0, 0, 0)]
theorem sk_26_84 : segB 5 false prog_7_method_8_code 84 sg_26_84 = true := by decide +kernel
def sg_26_107 : List RI := [(.dup2, 1, 0, 0, 0, 0)]
theorem sk_26_107 : segB 5 false prog_7_method_8_code 107 sg_26_107 = true := by decide +kernel
def sg_26_109 : List RI := [(.iconst 1, 1, 0, 0, 0, 1), (.iadd, 1, 0, 0, 0, 0)]
theorem sk_26_109 : segB 5 false prog_7_method_8_code 109 sg_26_109 = true := by decide +kernel
theorem ck_26_13 : decode prog_7_method_8_code 13 = .ok (.ifCond .ne 13, 3) ∧ lnkB 5 false 13 (.ifCond .ne 13, 3, 26, 0, 0, 0) = true := by decide +kernel
theorem ca_26_22 : decode prog_7_method_8_code 22 = .ok (.iastore, 1) ∧ lnkB 5 false 22 (.iastore, 1, 0, 0, 0, 0) = true := by decide +kernel
theorem ck_26_23 : decode prog_7_method_8_code 23 = .ok (.goto 89, 3) ∧ lnkB 5 false 23 (.goto 89, 3, 112, 0, 0, 0) = true := by decide +kernel
theorem ca_26_34 : decode prog_7_method_8_code 34 = .ok (.iaload, 1) ∧ lnkB 5 false 34 (.iaload, 1, 0, 0, 0, 0) = true := by decide +kernel
theorem ck_26_42 : decode prog_7_method_8_code 42 = .ok (.if_icmp .le 14, 3) ∧ lnkB 5 false 42 (.if_icmp .le 14, 3, 56, 0, 0, 0) = true := by decide +kernel
theorem ca_26_52 : decode prog_7_method_8_code 52 = .ok (.iastore, 1) ∧ lnkB 5 false 52 (.iastore, 1, 0, 0, 0, 0) = true := by decide +kernel
theorem ck_26_53 : decode prog_7_method_8_code 53 = .ok (.goto 59, 3) ∧ lnkB 5 false 53 (.goto 59, 3, 112, 0, 0, 0) = true := by decide +kernel
theorem ck_26_63 : decode prog_7_method_8_code 63 = .ok (.if_icmp .ge 49, 3) ∧ lnkB 5 false 63 (.if_icmp .ge 49, 3, 112, 0, 0, 0) = true := by decide +kernel
theorem ca_26_73 : decode prog_7_method_8_code 73 = .ok (.iastore, 1) ∧ lnkB 5 false 73 (.iastore, 1, 0, 0, 0, 0) = true := by decide +kernel
theorem ca_26_83 : decode prog_7_method_8_code 83 = .ok (.iastore, 1) ∧ lnkB 5 false 83 (.iastore, 1, 0, 0, 0, 0) = true := by decide +kernel
theorem ca_26_106 : decode prog_7_method_8_code 106 = .ok (.iaload, 1) ∧ lnkB 5 false 106 (.iaload, 1, 0, 0, 0, 0) = true := by decide +kernel
theorem ca_26_108 : decode prog_7_method_8_code 108 = .ok (.iaload, 1) ∧ lnkB 5 false 108 (.iaload, 1, 0, 0, 0, 0) = true := by decide +kernel
theorem ca_26_111 : decode prog_7_method_8_code 111 = .ok (.iastore, 1) ∧ lnkB 5 false 111 (.iastore, 1, 0, 0, 0, 0) = true := by decide +kernel
theorem ck_26_112 : decode prog_7_method_8_code 112 = .ok (.return_, 1) ∧ lnkB 5 false 112 (.return_, 1, 0, 0, 0, 0) = true := by decide +kernel
abbrev RU_26 (d : Nat) (cp : Nat × Nat) (Post : Option Value → Sto → Prop) : PP := Runs (Ex d) prog_7_method_8_code 5 false 3 none none cp Post
theorem en_26 {d : Nat} {As : List Value} {S : Sto} {mc ms : Nat} {Post : Option Value → Sto → Prop} (hc : cats As ≤ 3) (h : RU_26 d (mc, ms) Post 0 (lv_args 0 As) [] S 0 0) : Ex (d + 1) 26 As S mc ms Post := ⟨by decide, hc, h⟩
def sg_27_0 : List RI := [(.iconst 0, 1, 0, 0, 0, 0), (.istore 4, 2, 0, 0, 0, 0)]
theorem sk_27_0 : segB 5 false prog_7_method_7_code 0 sg_27_0 = true := by decide +kernel
def sg_27_3 : List RI := [(.iload 4, 2, 0, 0, 0, 0), (.aload_n 0, 1, 0, 0, 0, 0), (.getfield 36, 3, 5, 5, 2, 0), (.getfield 105, 3, 9, 4, 2, 0), (.iload_n 1, 1, 0, 0, 0, 0)]
theorem sk_27_3 : segB 5 false prog_7_method_7_code 3 sg_27_3 = true := by decide +kernel
def sg_27_17 : List RI := [(.iload_n 1, 1, 0, 0, 0, 0), (.bipush 6, 2, 0, 0, 0, 6), (.imul, 1, 0, 0, 0, 0), (.iload 4, 2, 0, 0, 0, 0), (.iadd, 1, 0, 0, 0, 0), (.istore 5, 2, 0, 0, 0, 0), (.aload_n 0, 1, 0, 0, 0, 0), (.getfield 32, 3, 5, 4, 2, 0), (.iload_n 2, 1, 0, 0, 0, 0), (.aload_n 0, 1, 0, 0, 0, 0), (.getfield 36, 3, 5, 5, 2, 0), (.getfield 110, 3, 9, 5, 2, 0), (.iload 5, 2, 0, 0, 0, 0)]
theorem sk_27_17 : segB 5 false prog_7_method_7_code 17 sg_27_17 = true := by decide +kernel
def sg_27_44 : List RI := [(.istore 6, 2, 0, 0, 0, 0), (.iconst 0, 1, 0, 0, 0, 0), (.istore 7, 2, 0, 0, 0, 0)]
theorem sk_27_44 : segB 5 false prog_7_method_7_code 44 sg_27_44 = true := by decide +kernel
def sg_27_49 : List RI := [(.iload 7, 2, 0, 0, 0, 0), (.iload 6, 2, 0, 0, 0, 0)]
theorem sk_27_49 : segB 5 false prog_7_method_7_code 49 sg_27_49 = true := by decide +kernel
def sg_27_56 : List RI := [(.aload_n 0, 1, 0, 0, 0, 0), (.aload_n 0, 1, 0, 0, 0, 0), (.getfield 36, 3, 5, 5, 2, 0), (.getfield 119, 3, 9, 6, 2, 0), (.iload 5, 2, 0, 0, 0, 0)]
theorem sk_27_56 : segB 5 false prog_7_method_7_code 56 sg_27_56 = true := by decide +kernel
def sg_27_67 : List RI := [(.aload_n 0, 1, 0, 0, 0, 0), (.getfield 32, 3, 5, 4, 2, 0), (.iload_n 2, 1, 0, 0, 0, 0), (.aload_n 0, 1, 0, 0, 0, 0), (.getfield 36, 3, 5, 5, 2, 0), (.getfield 110, 3, 9, 5, 2, 0), (.iload 5, 2, 0, 0, 0, 0)]
theorem sk_27_67 : segB 5 false prog_7_method_7_code 67 sg_27_67 = true := by decide +kernel
def sg_27_82 : List RI := [(.iload 7, 2, 0, 0, 0, 0)]
theorem sk_27_82 : segB 5 false prog_7_method_7_code 82 sg_27_82 = true := by decide +kernel
def sg_27_87 : List RI := [(.iload_n 3, 1, 0, 0, 0, 0), (.iconst 1, 1, 0, 0, 0, 1), (.iadd, 1, 0, 0, 0, 0)]
theorem sk_27_87 : segB 5 false prog_7_method_7_code 87 sg_27_87 = true := by decide +kernel
def sg_27_93 : List RI := [(.iinc 7 1, 3, 0, 0, 0, 1)]
theorem sk_27_93 : segB 5 false prog_7_method_7_code 93 sg_27_93 = true := by decide +kernel
def sg_27_99 : List RI := [(.iinc 4 1, 3, 0, 0, 0, 1)]
theorem sk_27_99 : segB 5 false prog_7_method_7_code 99 sg_27_99 = true := by decide +kernel
theorem ca_27_13 : decode prog_7_method_7_code 13 = .ok (.iaload, 1) ∧ lnkB 5 false 13 (.iaload, 1, 0, 0, 0, 0) = true := by decide +kernel
theorem ck_27_14 : decode prog_7_method_7_code 14 = .ok (.if_icmp .ge 91, 3) ∧ lnkB 5 false 14 (.if_icmp .ge 91, 3, 105, 0, 0, 0) = true := by decide +kernel
theorem ca_27_40 : decode prog_7_method_7_code 40 = .ok (.iaload, 1) ∧ lnkB 5 false 40 (.iaload, 1, 0, 0, 0, 0) = true := by decide +kernel
theorem ck_27_41 : decode prog_7_method_7_code 41 = .ok (.invokevirtual 113, 3) ∧ lnkB 5 false 41 (.invokevirtual 113, 3, 39, 0, 0, 0) = true := by decide +kernel
theorem ck_27_53 : decode prog_7_method_7_code 53 = .ok (.if_icmp .ge 46, 3) ∧ lnkB 5 false 53 (.if_icmp .ge 46, 3, 99, 0, 0, 0) = true := by decide +kernel
theorem ca_27_66 : decode prog_7_method_7_code 66 = .ok (.iaload, 1) ∧ lnkB 5 false 66 (.iaload, 1, 0, 0, 0, 0) = true := by decide +kernel
theorem ca_27_81 : decode prog_7_method_7_code 81 = .ok (.iaload, 1) ∧ lnkB 5 false 81 (.iaload, 1, 0, 0, 0, 0) = true := by decide +kernel
theorem ck_27_84 : decode prog_7_method_7_code 84 = .ok (.invokevirtual 122, 3) ∧ lnkB 5 false 84 (.invokevirtual 122, 3, 41, 0, 0, 0) = true := by decide +kernel
theorem ck_27_90 : decode prog_7_method_7_code 90 = .ok (.invokevirtual 51, 3) ∧ lnkB 5 false 90 (.invokevirtual 51, 3, 25, 0, 0, 0) = true := by decide +kernel
theorem ck_27_96 : decode prog_7_method_7_code 96 = .ok (.goto (-47), 3) ∧ lnkB 5 false 96 (.goto (-47), 3, 49, 0, 0, 0) = true := by decide +kernel
theorem ck_27_102 : decode prog_7_method_7_code 102 = .ok (.goto (-99), 3) ∧ lnkB 5 false 102 (.goto (-99), 3, 3, 0, 0, 0) = true := by decide +kernel
theorem ck_27_105 : decode prog_7_method_7_code 105 = .ok (.return_, 1) ∧ lnkB 5 false 105 (.return_, 1, 0, 0, 0, 0) = true := by decide +kernel
abbrev RU_27 (d : Nat) (cp : Nat × Nat) (Post : Option Value → Sto → Prop) : PP := Runs (Ex d) prog_7_method_7_code 5 false 8 none none cp Post
theorem en_27 {d : Nat} {As : List Value} {S : Sto} {mc ms : Nat} {Post : Option Value → Sto → Prop} (hc : cats As ≤ 8) (h : RU_27 d (mc, ms) Post 0 (lv_args 0 As) [] S 0 0) : Ex (d + 1) 27 As S mc ms Post := ⟨by decide, hc, h⟩
def sg_28_0 : List RI := [(.iconst 0, 1, 0, 0, 0, 0), (.istore_n 1, 1, 0, 0, 0, 0)]
theorem sk_28_0 : segB 5 false prog_7_method_12_code 0 sg_28_0 = true := by decide +kernel
def sg_28_2 : List RI := [(.iload_n 1, 1, 0, 0, 0, 0), (.iconst 5, 1, 0, 0, 0, 5)]
theorem sk_28_2 : segB 5 false prog_7_method_12_code 2 sg_28_2 = true := by decide +kernel
def sg_28_7 : List RI := [(.aload_n 0, 1, 0, 0, 0, 0), (.getfield 21, 3, 5, 10, 2, 0), (.iload_n 1, 1, 0, 0, 0, 0)]
theorem sk_28_7 : segB 5 false prog_7_method_12_code 7 sg_28_7 = true := by decide +kernel
def sg_28_16 : List RI := [(.aload_n 0, 1, 0, 0, 0, 0), (.iload_n 1, 1, 0, 0, 0, 0)]
theorem sk_28_16 : segB 5 false prog_7_method_12_code 16 sg_28_16 = true := by decide +kernel
def sg_28_21 : List RI := [(.iinc 1 1, 3, 0, 0, 0, 1)]
theorem sk_28_21 : segB 5 false prog_7_method_12_code 21 sg_28_21 = true := by decide +kernel
def sg_28_27 : List RI := [(.aload_n 0, 1, 0, 0, 0, 0), (.getfield 87, 3, 5, 9, 0, 0), (.aload_n 0, 1, 0, 0, 0, 0), (.getfield 84, 3, 5, 1, 0, 0)]
theorem sk_28_27 : segB 5 false prog_7_method_12_code 27 sg_28_27 = true := by decide +kernel
def sg_28_38 : List RI := [(.aload_n 0, 1, 0, 0, 0, 0), (.getfield 9, 3, 5, 0, 2, 0), (.aload_n 0, 1, 0, 0, 0, 0), (.getfield 18, 3, 5, 8, 2, 0), (.aload_n 0, 1, 0, 0, 0, 0), (.getfield 87, 3, 5, 9, 0, 0)]
theorem sk_28_38 : segB 5 false prog_7_method_12_code 38 sg_28_38 = true := by decide +kernel
def sg_28_52 : List RI := [(.bipush 11, 2, 0, 0, 0, 11)]
theorem sk_28_52 : segB 5 false prog_7_method_12_code 52 sg_28_52 = true := by decide +kernel
def sg_28_57 : List RI := [(.aload_n 0, 1, 0, 0, 0, 0), (.dup, 1, 0, 0, 0, 0), (.getfield 87, 3, 5, 9, 0, 0), (.iconst 1, 1, 0, 0, 0, 1), (.iadd, 1, 0, 0, 0, 0), (.putfield 87, 3, 5, 9, 0, 0)]
theorem sk_28_57 : segB 5 false prog_7_method_12_code 57 sg_28_57 = true := by decide +kernel
theorem ck_28_4 : decode prog_7_method_12_code 4 = .ok (.if_icmp .ge 23, 3) ∧ lnkB 5 false 4 (.if_icmp .ge 23, 3, 27, 0, 0, 0) = true := by decide +kernel
theorem ca_28_12 : decode prog_7_method_12_code 12 = .ok (.iaload, 1) ∧ lnkB 5 false 12 (.iaload, 1, 0, 0, 0, 0) = true := by decide +kernel
theorem ck_28_13 : decode prog_7_method_12_code 13 = .ok (.ifCond .le 8, 3) ∧ lnkB 5 false 13 (.ifCond .le 8, 3, 21, 0, 0, 0) = true := by decide +kernel
theorem ck_28_18 : decode prog_7_method_12_code 18 = .ok (.invokevirtual 191, 3) ∧ lnkB 5 false 18 (.invokevirtual 191, 3, 29, 0, 0, 0) = true := by decide +kernel
theorem ck_28_24 : decode prog_7_method_12_code 24 = .ok (.goto (-22), 3) ∧ lnkB 5 false 24 (.goto (-22), 3, 2, 0, 0, 0) = true := by decide +kernel
theorem ck_28_35 : decode prog_7_method_12_code 35 = .ok (.if_icmp .ge 35, 3) ∧ lnkB 5 false 35 (.if_icmp .ge 35, 3, 70, 0, 0, 0) = true := by decide +kernel
theorem ca_28_50 : decode prog_7_method_12_code 50 = .ok (.iaload, 1) ∧ lnkB 5 false 50 (.iaload, 1, 0, 0, 0, 0) = true := by decide +kernel
theorem ca_28_51 : decode prog_7_method_12_code 51 = .ok (.iaload, 1) ∧ lnkB 5 false 51 (.iaload, 1, 0, 0, 0, 0) = true := by decide +kernel
theorem ck_28_54 : decode prog_7_method_12_code 54 = .ok (.if_icmp .eq 16, 3) ∧ lnkB 5 false 54 (.if_icmp .eq 16, 3, 70, 0, 0, 0) = true := by decide +kernel
theorem ck_28_67 : decode prog_7_method_12_code 67 = .ok (.goto (-40), 3) ∧ lnkB 5 false 67 (.goto (-40), 3, 27, 0, 0, 0) = true := by decide +kernel
theorem ck_28_70 : decode prog_7_method_12_code 70 = .ok (.return_, 1) ∧ lnkB 5 false 70 (.return_, 1, 0, 0, 0, 0) = true := by decide +kernel
abbrev RU_28 (d : Nat) (cp : Nat × Nat) (Post : Option Value → Sto → Prop) : PP := Runs (Ex d) prog_7_method_12_code 5 false 2 none none cp Post
theorem en_28 {d : Nat} {As : List Value} {S : Sto} {mc ms : Nat} {Post : Option Value → Sto → Prop} (hc : cats As ≤ 2) (h : RU_28 d (mc, ms) Post 0 (lv_args 0 As) [] S 0 0) : Ex (d + 1) 28 As S mc ms Post := ⟨by decide, hc, h⟩
def sg_29_0 : List RI := [(.aload_n 0, 1, 0, 0, 0, 0), (.getfield 28, 3, 5, 3, 2, 0), (.getfield 138, 3, 3, 0, 2, 0), (.iload_n 1, 1, 0, 0, 0, 0)]
theorem sk_29_0 : segB 5 false prog_7_method_13_code 0 sg_29_0 = true := by decide +kernel
def sg_29_9 : List RI := [(.astore_n 2, 1, 0, 0, 0, 0), (.aload_n 2, 1, 0, 0, 0, 0), (.aload_n 0, 1, 0, 0, 0, 0), (.getfield 24, 3, 5, 2, 2, 0), (.getfield 129, 3, 1, 4, 0, 0)]
theorem sk_29_9 : segB 5 false prog_7_method_13_code 9 sg_29_9 = true := by decide +kernel
def sg_29_24 : List RI := [(.aload_n 0, 1, 0, 0, 0, 0), (.iload_n 1, 1, 0, 0, 0, 0)]
theorem sk_29_24 : segB 5 false prog_7_method_13_code 24 sg_29_24 = true := by decide +kernel
def sg_29_32 : List RI := [(.aload_n 2, 1, 0, 0, 0, 0), (.getfield 201, 3, 2, 5, 0, 0)]
theorem sk_29_32 : segB 5 false prog_7_method_13_code 32 sg_29_32 = true := by decide +kernel
def sg_29_39 : List RI := [(.iconst 0, 1, 0, 0, 0, 0), (.istore_n 3, 1, 0, 0, 0, 0)]
theorem sk_29_39 : segB 5 false prog_7_method_13_code 39 sg_29_39 = true := by decide +kernel
def sg_29_41 : List RI := [(.iload_n 3, 1, 0, 0, 0, 0), (.aload_n 2, 1, 0, 0, 0, 0), (.getfield 205, 3, 2, 2, 0, 0)]
theorem sk_29_41 : segB 5 false prog_7_method_13_code 41 sg_29_41 = true := by decide +kernel
def sg_29_49 : List RI := [(.aload_n 0, 1, 0, 0, 0, 0), (.getfield 21, 3, 5, 10, 2, 0), (.iload_n 1, 1, 0, 0, 0, 0)]
theorem sk_29_49 : segB 5 false prog_7_method_13_code 49 sg_29_49 = true := by decide +kernel
def sg_29_58 : List RI := [(.aload_n 0, 1, 0, 0, 0, 0), (.iload_n 1, 1, 0, 0, 0, 0), (.aload_n 2, 1, 0, 0, 0, 0), (.getfield 208, 3, 2, 1, 0, 0)]
theorem sk_29_58 : segB 5 false prog_7_method_13_code 58 sg_29_58 = true := by decide +kernel
def sg_29_67 : List RI := [(.iinc 3 1, 3, 0, 0, 0, 1)]
theorem sk_29_67 : segB 5 false prog_7_method_13_code 67 sg_29_67 = true := by decide +kernel
def sg_29_76 : List RI := [(.aload_n 2, 1, 0, 0, 0, 0), (.getfield 214, 3, 2, 8, 0, 0), (.iconst (-1), 1, 0, 0, 0, -1)]
theorem sk_29_76 : segB 5 false prog_7_method_13_code 76 sg_29_76 = true := by decide +kernel
def sg_29_84 : List RI := [(.aload_n 2, 1, 0, 0, 0, 0), (.aload_n 0, 1, 0, 0, 0, 0), (.getfield 40, 3, 5, 6, 2, 0), (.getfield 96, 3, 0, 5, 0, 0), (.putfield 214, 3, 2, 8, 0, 0), (.aload_n 0, 1, 0, 0, 0, 0), (.iload_n 1, 1, 0, 0, 0, 0), (.aload_n 2, 1, 0, 0, 0, 0), (.getfield 208, 3, 2, 1, 0, 0)]
theorem sk_29_84 : segB 5 false prog_7_method_13_code 84 sg_29_84 = true := by decide +kernel
theorem ca_29_8 : decode prog_7_method_13_code 8 = .ok (.aaload, 1) ∧ lnkB 5 false 8 (.aaload, 1, 0, 0, 0, 0) = true := by decide +kernel
theorem ck_29_18 : decode prog_7_method_13_code 18 = .ok (.invokevirtual 194, 3) ∧ lnkB 5 false 18 (.invokevirtual 194, 3, 10, 0, 0, 0) = true := by decide +kernel
theorem ck_29_21 : decode prog_7_method_13_code 21 = .ok (.ifCond .eq 11, 3) ∧ lnkB 5 false 21 (.ifCond .eq 11, 3, 32, 0, 0, 0) = true := by decide +kernel
theorem ck_29_26 : decode prog_7_method_13_code 26 = .ok (.invokevirtual 198, 3) ∧ lnkB 5 false 26 (.invokevirtual 198, 3, 30, 0, 0, 0) = true := by decide +kernel
theorem ck_29_29 : decode prog_7_method_13_code 29 = .ok (.goto 75, 3) ∧ lnkB 5 false 29 (.goto 75, 3, 104, 0, 0, 0) = true := by decide +kernel
theorem ck_29_36 : decode prog_7_method_13_code 36 = .ok (.ifCond .eq 40, 3) ∧ lnkB 5 false 36 (.ifCond .eq 40, 3, 76, 0, 0, 0) = true := by decide +kernel
theorem ck_29_46 : decode prog_7_method_13_code 46 = .ok (.if_icmp .ge 27, 3) ∧ lnkB 5 false 46 (.if_icmp .ge 27, 3, 73, 0, 0, 0) = true := by decide +kernel
theorem ca_29_54 : decode prog_7_method_13_code 54 = .ok (.iaload, 1) ∧ lnkB 5 false 54 (.iaload, 1, 0, 0, 0, 0) = true := by decide +kernel
theorem ck_29_55 : decode prog_7_method_13_code 55 = .ok (.ifCond .le 18, 3) ∧ lnkB 5 false 55 (.ifCond .le 18, 3, 73, 0, 0, 0) = true := by decide +kernel
theorem ck_29_64 : decode prog_7_method_13_code 64 = .ok (.invokevirtual 211, 3) ∧ lnkB 5 false 64 (.invokevirtual 211, 3, 31, 0, 0, 0) = true := by decide +kernel
theorem ck_29_70 : decode prog_7_method_13_code 70 = .ok (.goto (-29), 3) ∧ lnkB 5 false 70 (.goto (-29), 3, 41, 0, 0, 0) = true := by decide +kernel
theorem ck_29_73 : decode prog_7_method_13_code 73 = .ok (.goto 31, 3) ∧ lnkB 5 false 73 (.goto 31, 3, 104, 0, 0, 0) = true := by decide +kernel
theorem ck_29_81 : decode prog_7_method_13_code 81 = .ok (.if_icmp .ne 23, 3) ∧ lnkB 5 false 81 (.if_icmp .ne 23, 3, 104, 0, 0, 0) = true := by decide +kernel
theorem ck_29_101 : decode prog_7_method_13_code 101 = .ok (.invokevirtual 211, 3) ∧ lnkB 5 false 101 (.invokevirtual 211, 3, 31, 0, 0, 0) = true := by decide +kernel
theorem ck_29_104 : decode prog_7_method_13_code 104 = .ok (.return_, 1) ∧ lnkB 5 false 104 (.return_, 1, 0, 0, 0, 0) = true := by decide +kernel
abbrev RU_29 (d : Nat) (cp : Nat × Nat) (Post : Option Value → Sto → Prop) : PP := Runs (Ex d) prog_7_method_13_code 5 false 4 none none cp Post
theorem en_29 {d : Nat} {As : List Value} {S : Sto} {mc ms : Nat} {Post : Option Value → Sto → Prop} (hc : cats As ≤ 4) (h : RU_29 d (mc, ms) Post 0 (lv_args 0 As) [] S 0 0) : Ex (d + 1) 29 As S mc ms Post := ⟨by decide, hc, h⟩
def sg_30_0 : List RI := [(.aload_n 0, 1, 0, 0, 0, 0), (.getfield 87, 3, 5, 9, 0, 0), (.istore_n 2, 1, 0, 0, 0, 0)]
theorem sk_30_0 : segB 5 false prog_7_method_14_code 0 sg_30_0 = true := by decide +kernel
def sg_30_5 : List RI := [(.iload_n 2, 1, 0, 0, 0, 0), (.aload_n 0, 1, 0, 0, 0, 0), (.getfield 84, 3, 5, 1, 0, 0)]
theorem sk_30_5 : segB 5 false prog_7_method_14_code 5 sg_30_5 = true := by decide +kernel
def sg_30_13 : List RI := [(.aload_n 0, 1, 0, 0, 0, 0), (.getfield 18, 3, 5, 8, 2, 0), (.iload_n 2, 1, 0, 0, 0, 0)]
theorem sk_30_13 : segB 5 false prog_7_method_14_code 13 sg_30_13 = true := by decide +kernel
def sg_30_19 : List RI := [(.istore_n 3, 1, 0, 0, 0, 0), (.aload_n 0, 1, 0, 0, 0, 0), (.getfield 9, 3, 5, 0, 2, 0), (.iload_n 3, 1, 0, 0, 0, 0)]
theorem sk_30_19 : segB 5 false prog_7_method_14_code 19 sg_30_19 = true := by decide +kernel
def sg_30_26 : List RI := [(.bipush 11, 2, 0, 0, 0, 11)]
theorem sk_30_26 : segB 5 false prog_7_method_14_code 26 sg_30_26 = true := by decide +kernel
def sg_30_31 : List RI := [(.aload_n 0, 1, 0, 0, 0, 0), (.getfield 32, 3, 5, 4, 2, 0), (.getfield 132, 3, 6, 0, 2, 0), (.iload_n 3, 1, 0, 0, 0, 0), (.bipush 32, 2, 0, 0, 0, 32), (.idiv, 1, 0, 0, 0, 0)]
theorem sk_30_31 : segB 5 false prog_7_method_14_code 31 sg_30_31 = true := by decide +kernel
def sg_30_43 : List RI := [(.iload_n 1, 1, 0, 0, 0, 0)]
theorem sk_30_43 : segB 5 false prog_7_method_14_code 43 sg_30_43 = true := by decide +kernel
def sg_30_47 : List RI := [(.aload_n 0, 1, 0, 0, 0, 0), (.getfield 9, 3, 5, 0, 2, 0), (.iload_n 3, 1, 0, 0, 0, 0), (.iconst 4, 1, 0, 0, 0, 4)]
theorem sk_30_47 : segB 5 false prog_7_method_14_code 47 sg_30_47 = true := by decide +kernel
def sg_30_54 : List RI := [(.iinc 2 1, 3, 0, 0, 0, 1)]
theorem sk_30_54 : segB 5 false prog_7_method_14_code 54 sg_30_54 = true := by decide +kernel
def sg_30_60 : List RI := [(.aload_n 0, 1, 0, 0, 0, 0), (.getfield 21, 3, 5, 10, 2, 0), (.iload_n 1, 1, 0, 0, 0, 0), (.iconst 0, 1, 0, 0, 0, 0)]
theorem sk_30_60 : segB 5 false prog_7_method_14_code 60 sg_30_60 = true := by decide +kernel
theorem ck_30_10 : decode prog_7_method_14_code 10 = .ok (.if_icmp .ge 50, 3) ∧ lnkB 5 false 10 (.if_icmp .ge 50, 3, 60, 0, 0, 0) = true := by decide +kernel
theorem ca_30_18 : decode prog_7_method_14_code 18 = .ok (.iaload, 1) ∧ lnkB 5 false 18 (.iaload, 1, 0, 0, 0, 0) = true := by decide +kernel
theorem ca_30_25 : decode prog_7_method_14_code 25 = .ok (.iaload, 1) ∧ lnkB 5 false 25 (.iaload, 1, 0, 0, 0, 0) = true := by decide +kernel
theorem ck_30_28 : decode prog_7_method_14_code 28 = .ok (.if_icmp .ne 26, 3) ∧ lnkB 5 false 28 (.if_icmp .ne 26, 3, 54, 0, 0, 0) = true := by decide +kernel
theorem ca_30_42 : decode prog_7_method_14_code 42 = .ok (.iaload, 1) ∧ lnkB 5 false 42 (.iaload, 1, 0, 0, 0, 0) = true := by decide +kernel
theorem ck_30_44 : decode prog_7_method_14_code 44 = .ok (.if_icmp .ne 10, 3) ∧ lnkB 5 false 44 (.if_icmp .ne 10, 3, 54, 0, 0, 0) = true := by decide +kernel
theorem ca_30_53 : decode prog_7_method_14_code 53 = .ok (.iastore, 1) ∧ lnkB 5 false 53 (.iastore, 1, 0, 0, 0, 0) = true := by decide +kernel
theorem ck_30_57 : decode prog_7_method_14_code 57 = .ok (.goto (-52), 3) ∧ lnkB 5 false 57 (.goto (-52), 3, 5, 0, 0, 0) = true := by decide +kernel
theorem ca_30_66 : decode prog_7_method_14_code 66 = .ok (.iastore, 1) ∧ lnkB 5 false 66 (.iastore, 1, 0, 0, 0, 0) = true := by decide +kernel
theorem ck_30_67 : decode prog_7_method_14_code 67 = .ok (.return_, 1) ∧ lnkB 5 false 67 (.return_, 1, 0, 0, 0, 0) = true := by decide +kernel
abbrev RU_30 (d : Nat) (cp : Nat × Nat) (Post : Option Value → Sto → Prop) : PP := Runs (Ex d) prog_7_method_14_code 5 false 4 none none cp Post
theorem en_30 {d : Nat} {As : List Value} {S : Sto} {mc ms : Nat} {Post : Option Value → Sto → Prop} (hc : cats As ≤ 4) (h : RU_30 d (mc, ms) Post 0 (lv_args 0 As) [] S 0 0) : Ex (d + 1) 30 As S mc ms Post := ⟨by decide, hc, h⟩
def sg_31_0 : List RI := [(.iconst (-1), 1, 0, 0, 0, -1), (.istore_n 3, 1, 0, 0, 0, 0), (.iconst 0, 1, 0, 0, 0, 0), (.istore 4, 2, 0, 0, 0, 0), (.aload_n 0, 1, 0, 0, 0, 0), (.getfield 87, 3, 5, 9, 0, 0), (.istore 5, 2, 0, 0, 0, 0)]
theorem sk_31_0 : segB 5 false prog_7_method_15_code 0 sg_31_0 = true := by decide +kernel
def sg_31_11 : List RI := [(.iload 5, 2, 0, 0, 0, 0), (.aload_n 0, 1, 0, 0, 0, 0), (.getfield 84, 3, 5, 1, 0, 0)]
theorem sk_31_11 : segB 5 false prog_7_method_15_code 11 sg_31_11 = true := by decide +kernel
def sg_31_20 : List RI := [(.iload 4, 2, 0, 0, 0, 0), (.iload_n 2, 1, 0, 0, 0, 0)]
theorem sk_31_20 : segB 5 false prog_7_method_15_code 20 sg_31_20 = true := by decide +kernel
def sg_31_26 : List RI := [(.aload_n 0, 1, 0, 0, 0, 0), (.getfield 18, 3, 5, 8, 2, 0), (.iload 5, 2, 0, 0, 0, 0)]
theorem sk_31_26 : segB 5 false prog_7_method_15_code 26 sg_31_26 = true := by decide +kernel
def sg_31_33 : List RI := [(.istore 6, 2, 0, 0, 0, 0), (.iload 6, 2, 0, 0, 0, 0), (.bipush 32, 2, 0, 0, 0, 32), (.idiv, 1, 0, 0, 0, 0), (.istore 7, 2, 0, 0, 0, 0), (.aload_n 0, 1, 0, 0, 0, 0), (.getfield 9, 3, 5, 0, 2, 0), (.iload 6, 2, 0, 0, 0, 0)]
theorem sk_31_33 : segB 5 false prog_7_method_15_code 33 sg_31_33 = true := by decide +kernel
def sg_31_49 : List RI := [(.bipush 11, 2, 0, 0, 0, 11)]
theorem sk_31_49 : segB 5 false prog_7_method_15_code 49 sg_31_49 = true := by decide +kernel
def sg_31_57 : List RI := [(.iload_n 3, 1, 0, 0, 0, 0), (.iconst (-1), 1, 0, 0, 0, -1)]
theorem sk_31_57 : segB 5 false prog_7_method_15_code 57 sg_31_57 = true := by decide +kernel
def sg_31_62 : List RI := [(.aload_n 0, 1, 0, 0, 0, 0), (.getfield 32, 3, 5, 4, 2, 0), (.getfield 132, 3, 6, 0, 2, 0), (.iload 7, 2, 0, 0, 0, 0)]
theorem sk_31_62 : segB 5 false prog_7_method_15_code 62 sg_31_62 = true := by decide +kernel
def sg_31_72 : List RI := [(.iload_n 1, 1, 0, 0, 0, 0)]
theorem sk_31_72 : segB 5 false prog_7_method_15_code 72 sg_31_72 = true := by decide +kernel
def sg_31_76 : List RI := [(.iload 7, 2, 0, 0, 0, 0), (.istore_n 3, 1, 0, 0, 0, 0), (.aload_n 0, 1, 0, 0, 0, 0), (.getfield 40, 3, 5, 6, 2, 0), (.iload_n 1, 1, 0, 0, 0, 0), (.iload_n 3, 1, 0, 0, 0, 0), (.aload_n 0, 1, 0, 0, 0, 0), (.getfield 24, 3, 5, 2, 2, 0), (.getfield 129, 3, 1, 4, 0, 0)]
theorem sk_31_76 : segB 5 false prog_7_method_15_code 76 sg_31_76 = true := by decide +kernel
def sg_31_95 : List RI := [(.iload 7, 2, 0, 0, 0, 0), (.iload_n 3, 1, 0, 0, 0, 0)]
theorem sk_31_95 : segB 5 false prog_7_method_15_code 95 sg_31_95 = true := by decide +kernel
def sg_31_101 : List RI := [(.aload_n 0, 1, 0, 0, 0, 0), (.getfield 40, 3, 5, 6, 2, 0), (.iload 6, 2, 0, 0, 0, 0), (.bipush 32, 2, 0, 0, 0, 32), (.irem, 1, 0, 0, 0, 0)]
theorem sk_31_101 : segB 5 false prog_7_method_15_code 101 sg_31_101 = true := by decide +kernel
def sg_31_113 : List RI := [(.aload_n 0, 1, 0, 0, 0, 0), (.getfield 9, 3, 5, 0, 2, 0), (.iload 6, 2, 0, 0, 0, 0), (.bipush 12, 2, 0, 0, 0, 12)]
theorem sk_31_113 : segB 5 false prog_7_method_15_code 113 sg_31_113 = true := by decide +kernel
def sg_31_122 : List RI := [(.aload_n 0, 1, 0, 0, 0, 0), (.getfield 21, 3, 5, 10, 2, 0), (.iload_n 1, 1, 0, 0, 0, 0), (.dup2, 1, 0, 0, 0, 0)]
theorem sk_31_122 : segB 5 false prog_7_method_15_code 122 sg_31_122 = true := by decide +kernel
def sg_31_129 : List RI := [(.iconst 1, 1, 0, 0, 0, 1), (.isub, 1, 0, 0, 0, 0)]
theorem sk_31_129 : segB 5 false prog_7_method_15_code 129 sg_31_129 = true := by decide +kernel
def sg_31_132 : List RI := [(.iinc 4 1, 3, 0, 0, 0, 1)]
theorem sk_31_132 : segB 5 false prog_7_method_15_code 132 sg_31_132 = true := by decide +kernel
def sg_31_135 : List RI := [(.iinc 5 1, 3, 0, 0, 0, 1)]
theorem sk_31_135 : segB 5 false prog_7_method_15_code 135 sg_31_135 = true := by decide +kernel
theorem ck_31_17 : decode prog_7_method_15_code 17 = .ok (.if_icmp .ge 124, 3) ∧ lnkB 5 false 17 (.if_icmp .ge 124, 3, 141, 0, 0, 0) = true := by decide +kernel
theorem ck_31_23 : decode prog_7_method_15_code 23 = .ok (.if_icmp .ge 118, 3) ∧ lnkB 5 false 23 (.if_icmp .ge 118, 3, 141, 0, 0, 0) = true := by decide +kernel
theorem ca_31_32 : decode prog_7_method_15_code 32 = .ok (.iaload, 1) ∧ lnkB 5 false 32 (.iaload, 1, 0, 0, 0, 0) = true := by decide +kernel
theorem ca_31_48 : decode prog_7_method_15_code 48 = .ok (.iaload, 1) ∧ lnkB 5 false 48 (.iaload, 1, 0, 0, 0, 0) = true := by decide +kernel
theorem ck_31_51 : decode prog_7_method_15_code 51 = .ok (.if_icmp .eq 6, 3) ∧ lnkB 5 false 51 (.if_icmp .eq 6, 3, 57, 0, 0, 0) = true := by decide +kernel
theorem ck_31_54 : decode prog_7_method_15_code 54 = .ok (.goto 81, 3) ∧ lnkB 5 false 54 (.goto 81, 3, 135, 0, 0, 0) = true := by decide +kernel
theorem ck_31_59 : decode prog_7_method_15_code 59 = .ok (.if_icmp .ne 36, 3) ∧ lnkB 5 false 59 (.if_icmp .ne 36, 3, 95, 0, 0, 0) = true := by decide +kernel
theorem ca_31_71 : decode prog_7_method_15_code 71 = .ok (.iaload, 1) ∧ lnkB 5 false 71 (.iaload, 1, 0, 0, 0, 0) = true := by decide +kernel
theorem ck_31_73 : decode prog_7_method_15_code 73 = .ok (.if_icmp .ne 22, 3) ∧ lnkB 5 false 73 (.if_icmp .ne 22, 3, 95, 0, 0, 0) = true := by decide +kernel
theorem ck_31_92 : decode prog_7_method_15_code 92 = .ok (.invokevirtual 217, 3) ∧ lnkB 5 false 92 (.invokevirtual 217, 3, 2, 0, 0, 0) = true := by decide +kernel
theorem ck_31_98 : decode prog_7_method_15_code 98 = .ok (.if_icmp .ne 37, 3) ∧ lnkB 5 false 98 (.if_icmp .ne 37, 3, 135, 0, 0, 0) = true := by decide +kernel
theorem ck_31_110 : decode prog_7_method_15_code 110 = .ok (.invokevirtual 220, 3) ∧ lnkB 5 false 110 (.invokevirtual 220, 3, 3, 0, 0, 0) = true := by decide +kernel
theorem ca_31_121 : decode prog_7_method_15_code 121 = .ok (.iastore, 1) ∧ lnkB 5 false 121 (.iastore, 1, 0, 0, 0, 0) = true := by decide +kernel
theorem ca_31_128 : decode prog_7_method_15_code 128 = .ok (.iaload, 1) ∧ lnkB 5 false 128 (.iaload, 1, 0, 0, 0, 0) = true := by decide +kernel
theorem ca_31_131 : decode prog_7_method_15_code 131 = .ok (.iastore, 1) ∧ lnkB 5 false 131 (.iastore, 1, 0, 0, 0, 0) = true := by decide +kernel
theorem ck_31_138 : decode prog_7_method_15_code 138 = .ok (.goto (-127), 3) ∧ lnkB 5 false 138 (.goto (-127), 3, 11, 0, 0, 0) = true := by decide +kernel
theorem ck_31_141 : decode prog_7_method_15_code 141 = .ok (.return_, 1) ∧ lnkB 5 false 141 (.return_, 1, 0, 0, 0, 0) = true := by decide +kernel
abbrev RU_31 (d : Nat) (cp : Nat × Nat) (Post : Option Value → Sto → Prop) : PP := Runs (Ex d) prog_7_method_15_code 5 false 8 none none cp Post
theorem en_31 {d : Nat} {As : List Value} {S : Sto} {mc ms : Nat} {Post : Option Value → Sto → Prop} (hc : cats As ≤ 8) (h : RU_31 d (mc, ms) Post 0 (lv_args 0 As) [] S 0 0) : Ex (d + 1) 31 As S mc ms Post := ⟨by decide, hc, h⟩
def sg_32_0 : List RI := [(.aload_n 0, 1, 0, 0, 0, 0), (.getfield 40, 3, 5, 6, 2, 0), (.getfield 93, 3, 0, 6, 0, 0), (.aload_n 0, 1, 0, 0, 0, 0), (.getfield 40, 3, 5, 6, 2, 0), (.getfield 96, 3, 0, 5, 0, 0)]
theorem sk_32_0 : segB 5 false prog_7_method_5_code 0 sg_32_0 = true := by decide +kernel
def sg_32_17 : List RI := [(.aload_n 0, 1, 0, 0, 0, 0), (.getfield 87, 3, 5, 9, 0, 0), (.aload_n 0, 1, 0, 0, 0, 0), (.getfield 84, 3, 5, 1, 0, 0)]
theorem sk_32_17 : segB 5 false prog_7_method_5_code 17 sg_32_17 = true := by decide +kernel
def sg_32_28 : List RI := [(.iconst 1, 1, 0, 0, 0, 1)]
theorem sk_32_28 : segB 5 false prog_7_method_5_code 28 sg_32_28 = true := by decide +kernel
def sg_32_32 : List RI := [(.iconst 0, 1, 0, 0, 0, 0)]
theorem sk_32_32 : segB 5 false prog_7_method_5_code 32 sg_32_32 = true := by decide +kernel
theorem ck_32_14 : decode prog_7_method_5_code 14 = .ok (.if_icmp .lt 18, 3) ∧ lnkB 5 false 14 (.if_icmp .lt 18, 3, 32, 0, 0, 0) = true := by decide +kernel
theorem ck_32_25 : decode prog_7_method_5_code 25 = .ok (.if_icmp .lt 7, 3) ∧ lnkB 5 false 25 (.if_icmp .lt 7, 3, 32, 0, 0, 0) = true := by decide +kernel
theorem ck_32_29 : decode prog_7_method_5_code 29 = .ok (.goto 4, 3) ∧ lnkB 5 false 29 (.goto 4, 3, 33, 0, 0, 0) = true := by decide +kernel
theorem ck_32_33 : decode prog_7_method_5_code 33 = .ok (.ireturn, 1) ∧ lnkB 5 false 33 (.ireturn, 1, 0, 0, 0, 0) = true := by decide +kernel
abbrev RU_32 (d : Nat) (cp : Nat × Nat) (Post : Option Value → Sto → Prop) : PP := Runs (Ex d) prog_7_method_5_code 5 false 1 (some .boolean) none cp Post
theorem en_32 {d : Nat} {As : List Value} {S : Sto} {mc ms : Nat} {Post : Option Value → Sto → Prop} (hc : cats As ≤ 1) (h : RU_32 d (mc, ms) Post 0 (lv_args 0 As) [] S 0 0) : Ex (d + 1) 32 As S mc ms Post := ⟨by decide, hc, h⟩
def sg_33_0 : List RI := [(.aload_n 0, 1, 0, 0, 0, 0), (.getfield 40, 3, 5, 6, 2, 0), (.getfield 96, 3, 0, 5, 0, 0), (.istore_n 1, 1, 0, 0, 0, 0), (.aload_n 0, 1, 0, 0, 0, 0), (.getfield 40, 3, 5, 6, 2, 0), (.getfield 93, 3, 0, 6, 0, 0), (.istore_n 2, 1, 0, 0, 0, 0)]
theorem sk_33_0 : segB 5 false prog_7_method_9_code 0 sg_33_0 = true := by decide +kernel
def sg_33_16 : List RI := [(.iload_n 2, 1, 0, 0, 0, 0), (.iload_n 1, 1, 0, 0, 0, 0)]
theorem sk_33_16 : segB 5 false prog_7_method_9_code 16 sg_33_16 = true := by decide +kernel
def sg_33_21 : List RI := [(.aload_n 0, 1, 0, 0, 0, 0), (.getfield 40, 3, 5, 6, 2, 0), (.getfield 135, 3, 0, 2, 2, 0), (.iload_n 2, 1, 0, 0, 0, 0)]
theorem sk_33_21 : segB 5 false prog_7_method_9_code 21 sg_33_21 = true := by decide +kernel
def sg_33_30 : List RI := [(.aload_n 0, 1, 0, 0, 0, 0), (.getfield 28, 3, 5, 3, 2, 0), (.getfield 138, 3, 3, 0, 2, 0), (.aload_n 0, 1, 0, 0, 0, 0), (.getfield 40, 3, 5, 6, 2, 0), (.getfield 144, 3, 0, 0, 2, 0), (.iload_n 2, 1, 0, 0, 0, 0)]
theorem sk_33_30 : segB 5 false prog_7_method_9_code 30 sg_33_30 = true := by decide +kernel
def sg_33_47 : List RI := [(.getfield 145, 3, 2, 0, 0, 0), (.iadd, 1, 0, 0, 0, 0), (.istore_n 3, 1, 0, 0, 0, 0), (.aload_n 0, 1, 0, 0, 0, 0), (.getfield 40, 3, 5, 6, 2, 0), (.getfield 150, 3, 0, 4, 2, 0), (.iload_n 2, 1, 0, 0, 0, 0)]
theorem sk_33_47 : segB 5 false prog_7_method_9_code 47 sg_33_47 = true := by decide +kernel
def sg_33_61 : List RI := [(.iconst 3, 1, 0, 0, 0, 3)]
theorem sk_33_61 : segB 5 false prog_7_method_9_code 61 sg_33_61 = true := by decide +kernel
def sg_33_65 : List RI := [(.iload_n 3, 1, 0, 0, 0, 0), (.aload_n 0, 1, 0, 0, 0, 0), (.getfield 24, 3, 5, 2, 2, 0), (.getfield 129, 3, 1, 4, 0, 0)]
theorem sk_33_65 : segB 5 false prog_7_method_9_code 65 sg_33_65 = true := by decide +kernel
def sg_33_76 : List RI := [(.aload_n 0, 1, 0, 0, 0, 0), (.iload_n 2, 1, 0, 0, 0, 0)]
theorem sk_33_76 : segB 5 false prog_7_method_9_code 76 sg_33_76 = true := by decide +kernel
def sg_33_81 : List RI := [(.iinc 2 1, 3, 0, 0, 0, 1)]
theorem sk_33_81 : segB 5 false prog_7_method_9_code 81 sg_33_81 = true := by decide +kernel
theorem ck_33_18 : decode prog_7_method_9_code 18 = .ok (.if_icmp .ge 69, 3) ∧ lnkB 5 false 18 (.if_icmp .ge 69, 3, 87, 0, 0, 0) = true := by decide +kernel
theorem ca_33_29 : decode prog_7_method_9_code 29 = .ok (.iaload, 1) ∧ lnkB 5 false 29 (.iaload, 1, 0, 0, 0, 0) = true := by decide +kernel
theorem ca_33_45 : decode prog_7_method_9_code 45 = .ok (.iaload, 1) ∧ lnkB 5 false 45 (.iaload, 1, 0, 0, 0, 0) = true := by decide +kernel
theorem ca_33_46 : decode prog_7_method_9_code 46 = .ok (.aaload, 1) ∧ lnkB 5 false 46 (.aaload, 1, 0, 0, 0, 0) = true := by decide +kernel
theorem ca_33_60 : decode prog_7_method_9_code 60 = .ok (.iaload, 1) ∧ lnkB 5 false 60 (.iaload, 1, 0, 0, 0, 0) = true := by decide +kernel
theorem ck_33_62 : decode prog_7_method_9_code 62 = .ok (.if_icmp .ne 19, 3) ∧ lnkB 5 false 62 (.if_icmp .ne 19, 3, 81, 0, 0, 0) = true := by decide +kernel
theorem ck_33_73 : decode prog_7_method_9_code 73 = .ok (.if_icmp .ne 8, 3) ∧ lnkB 5 false 73 (.if_icmp .ne 8, 3, 81, 0, 0, 0) = true := by decide +kernel
theorem ck_33_78 : decode prog_7_method_9_code 78 = .ok (.invokevirtual 151, 3) ∧ lnkB 5 false 78 (.invokevirtual 151, 3, 34, 0, 0, 0) = true := by decide +kernel
theorem ck_33_84 : decode prog_7_method_9_code 84 = .ok (.goto (-68), 3) ∧ lnkB 5 false 84 (.goto (-68), 3, 16, 0, 0, 0) = true := by decide +kernel
theorem ck_33_87 : decode prog_7_method_9_code 87 = .ok (.return_, 1) ∧ lnkB 5 false 87 (.return_, 1, 0, 0, 0, 0) = true := by decide +kernel
abbrev RU_33 (d : Nat) (cp : Nat × Nat) (Post : Option Value → Sto → Prop) : PP := Runs (Ex d) prog_7_method_9_code 5 false 4 none none cp Post
theorem en_33 {d : Nat} {As : List Value} {S : Sto} {mc ms : Nat} {Post : Option Value → Sto → Prop} (hc : cats As ≤ 4) (h : RU_33 d (mc, ms) Post 0 (lv_args 0 As) [] S 0 0) : Ex (d + 1) 33 As S mc ms Post := ⟨by decide, hc, h⟩
def sg_34_0 : List RI := [(.aload_n 0, 1, 0, 0, 0, 0), (.getfield 40, 3, 5, 6, 2, 0), (.getfield 144, 3, 0, 0, 2, 0), (.iload_n 1, 1, 0, 0, 0, 0)]
theorem sk_34_0 : segB 5 false prog_7_method_10_code 0 sg_34_0 = true := by decide +kernel
def sg_34_9 : List RI := [(.istore_n 2, 1, 0, 0, 0, 0), (.aload_n 0, 1, 0, 0, 0, 0), (.getfield 28, 3, 5, 3, 2, 0), (.iload_n 2, 1, 0, 0, 0, 0), (.aload_n 0, 1, 0, 0, 0, 0), (.getfield 40, 3, 5, 6, 2, 0), (.getfield 135, 3, 0, 2, 2, 0), (.iload_n 1, 1, 0, 0, 0, 0)]
theorem sk_34_9 : segB 5 false prog_7_method_10_code 9 sg_34_9 = true := by decide +kernel
def sg_34_27 : List RI := [(.istore_n 3, 1, 0, 0, 0, 0), (.aload_n 0, 1, 0, 0, 0, 0), (.getfield 40, 3, 5, 6, 2, 0), (.iload_n 1, 1, 0, 0, 0, 0), (.iload_n 3, 1, 0, 0, 0, 0)]
theorem sk_34_27 : segB 5 false prog_7_method_10_code 27 sg_34_27 = true := by decide +kernel
def sg_34_37 : List RI := [(.iconst 1, 1, 0, 0, 0, 1)]
theorem sk_34_37 : segB 5 false prog_7_method_10_code 37 sg_34_37 = true := by decide +kernel
def sg_34_41 : List RI := [(.iconst 0, 1, 0, 0, 0, 0)]
theorem sk_34_41 : segB 5 false prog_7_method_10_code 41 sg_34_41 = true := by decide +kernel
def sg_34_45 : List RI := [(.aload_n 0, 1, 0, 0, 0, 0), (.getfield 28, 3, 5, 3, 2, 0), (.getfield 138, 3, 3, 0, 2, 0), (.iload_n 2, 1, 0, 0, 0, 0)]
theorem sk_34_45 : segB 5 false prog_7_method_10_code 45 sg_34_45 = true := by decide +kernel
def sg_34_54 : List RI := [(.iload_n 1, 1, 0, 0, 0, 0), (.iload_n 3, 1, 0, 0, 0, 0), (.aload_n 0, 1, 0, 0, 0, 0), (.getfield 24, 3, 5, 2, 2, 0), (.getfield 129, 3, 1, 4, 0, 0)]
theorem sk_34_54 : segB 5 false prog_7_method_10_code 54 sg_34_54 = true := by decide +kernel
def sg_34_66 : List RI := [(.iconst 0, 1, 0, 0, 0, 0), (.istore 4, 2, 0, 0, 0, 0)]
theorem sk_34_66 : segB 5 false prog_7_method_10_code 66 sg_34_66 = true := by decide +kernel
def sg_34_69 : List RI := [(.iload 4, 2, 0, 0, 0, 0), (.aload_n 0, 1, 0, 0, 0, 0), (.getfield 40, 3, 5, 6, 2, 0), (.getfield 166, 3, 0, 3, 2, 0), (.iload_n 1, 1, 0, 0, 0, 0)]
theorem sk_34_69 : segB 5 false prog_7_method_10_code 69 sg_34_69 = true := by decide +kernel
def sg_34_83 : List RI := [(.aload_n 0, 1, 0, 0, 0, 0), (.getfield 40, 3, 5, 6, 2, 0), (.getfield 169, 3, 0, 1, 2, 0), (.iload_n 1, 1, 0, 0, 0, 0)]
theorem sk_34_83 : segB 5 false prog_7_method_10_code 83 sg_34_83 = true := by decide +kernel
def sg_34_92 : List RI := [(.bipush 32, 2, 0, 0, 0, 32), (.imul, 1, 0, 0, 0, 0), (.aload_n 0, 1, 0, 0, 0, 0), (.getfield 40, 3, 5, 6, 2, 0), (.iload_n 1, 1, 0, 0, 0, 0), (.iload 4, 2, 0, 0, 0, 0)]
theorem sk_34_92 : segB 5 false prog_7_method_10_code 92 sg_34_92 = true := by decide +kernel
def sg_34_105 : List RI := [(.iadd, 1, 0, 0, 0, 0), (.istore 5, 2, 0, 0, 0, 0), (.iload_n 3, 1, 0, 0, 0, 0)]
theorem sk_34_105 : segB 5 false prog_7_method_10_code 105 sg_34_105 = true := by decide +kernel
def sg_34_112 : List RI := [(.aload_n 0, 1, 0, 0, 0, 0), (.getfield 9, 3, 5, 0, 2, 0), (.iload 5, 2, 0, 0, 0, 0), (.iconst 3, 1, 0, 0, 0, 3)]
theorem sk_34_112 : segB 5 false prog_7_method_10_code 112 sg_34_112 = true := by decide +kernel
def sg_34_123 : List RI := [(.aload_n 0, 1, 0, 0, 0, 0), (.getfield 32, 3, 5, 4, 2, 0), (.getfield 175, 3, 6, 7, 2, 0), (.iload 5, 2, 0, 0, 0, 0)]
theorem sk_34_123 : segB 5 false prog_7_method_10_code 123 sg_34_123 = true := by decide +kernel
def sg_34_136 : List RI := [(.aload_n 0, 1, 0, 0, 0, 0), (.getfield 9, 3, 5, 0, 2, 0), (.iload 5, 2, 0, 0, 0, 0), (.iconst 2, 1, 0, 0, 0, 2)]
theorem sk_34_136 : segB 5 false prog_7_method_10_code 136 sg_34_136 = true := by decide +kernel
def sg_34_147 : List RI := [(.aload_n 0, 1, 0, 0, 0, 0), (.iload 5, 2, 0, 0, 0, 0)]
theorem sk_34_147 : segB 5 false prog_7_method_10_code 147 sg_34_147 = true := by decide +kernel
def sg_34_153 : List RI := [(.iinc 4 1, 3, 0, 0, 0, 1)]
theorem sk_34_153 : segB 5 false prog_7_method_10_code 153 sg_34_153 = true := by decide +kernel
theorem ca_34_8 : decode prog_7_method_10_code 8 = .ok (.iaload, 1) ∧ lnkB 5 false 8 (.iaload, 1, 0, 0, 0, 0) = true := by decide +kernel
theorem ca_34_23 : decode prog_7_method_10_code 23 = .ok (.iaload, 1) ∧ lnkB 5 false 23 (.iaload, 1, 0, 0, 0, 0) = true := by decide +kernel
theorem ck_34_24 : decode prog_7_method_10_code 24 = .ok (.invokevirtual 154, 3) ∧ lnkB 5 false 24 (.invokevirtual 154, 3, 15, 0, 0, 0) = true := by decide +kernel
theorem ck_34_34 : decode prog_7_method_10_code 34 = .ok (.ifCond .eq 7, 3) ∧ lnkB 5 false 34 (.ifCond .eq 7, 3, 41, 0, 0, 0) = true := by decide +kernel
theorem ck_34_38 : decode prog_7_method_10_code 38 = .ok (.goto 4, 3) ∧ lnkB 5 false 38 (.goto 4, 3, 42, 0, 0, 0) = true := by decide +kernel
theorem ck_34_42 : decode prog_7_method_10_code 42 = .ok (.invokevirtual 158, 3) ∧ lnkB 5 false 42 (.invokevirtual 158, 3, 4, 0, 0, 0) = true := by decide +kernel
theorem ca_34_53 : decode prog_7_method_10_code 53 = .ok (.aaload, 1) ∧ lnkB 5 false 53 (.aaload, 1, 0, 0, 0, 0) = true := by decide +kernel
theorem ck_34_63 : decode prog_7_method_10_code 63 = .ok (.invokevirtual 162, 3) ∧ lnkB 5 false 63 (.invokevirtual 162, 3, 11, 0, 0, 0) = true := by decide +kernel
theorem ca_34_79 : decode prog_7_method_10_code 79 = .ok (.iaload, 1) ∧ lnkB 5 false 79 (.iaload, 1, 0, 0, 0, 0) = true := by decide +kernel
theorem ck_34_80 : decode prog_7_method_10_code 80 = .ok (.if_icmp .ge 79, 3) ∧ lnkB 5 false 80 (.if_icmp .ge 79, 3, 159, 0, 0, 0) = true := by decide +kernel
theorem ca_34_91 : decode prog_7_method_10_code 91 = .ok (.iaload, 1) ∧ lnkB 5 false 91 (.iaload, 1, 0, 0, 0, 0) = true := by decide +kernel
theorem ck_34_102 : decode prog_7_method_10_code 102 = .ok (.invokevirtual 172, 3) ∧ lnkB 5 false 102 (.invokevirtual 172, 3, 5, 0, 0, 0) = true := by decide +kernel
theorem ck_34_109 : decode prog_7_method_10_code 109 = .ok (.ifCond .eq 14, 3) ∧ lnkB 5 false 109 (.ifCond .eq 14, 3, 123, 0, 0, 0) = true := by decide +kernel
theorem ca_34_119 : decode prog_7_method_10_code 119 = .ok (.iastore, 1) ∧ lnkB 5 false 119 (.iastore, 1, 0, 0, 0, 0) = true := by decide +kernel
theorem ck_34_120 : decode prog_7_method_10_code 120 = .ok (.goto 33, 3) ∧ lnkB 5 false 120 (.goto 33, 3, 153, 0, 0, 0) = true := by decide +kernel
theorem ca_34_132 : decode prog_7_method_10_code 132 = .ok (.baload, 1) ∧ lnkB 5 false 132 (.baload, 1, 15, 0, 0, 0) = true := by decide +kernel
theorem ck_34_133 : decode prog_7_method_10_code 133 = .ok (.ifCond .ne 14, 3) ∧ lnkB 5 false 133 (.ifCond .ne 14, 3, 147, 0, 0, 0) = true := by decide +kernel
theorem ca_34_143 : decode prog_7_method_10_code 143 = .ok (.iastore, 1) ∧ lnkB 5 false 143 (.iastore, 1, 0, 0, 0, 0) = true := by decide +kernel
theorem ck_34_144 : decode prog_7_method_10_code 144 = .ok (.goto 9, 3) ∧ lnkB 5 false 144 (.goto 9, 3, 153, 0, 0, 0) = true := by decide +kernel
theorem ck_34_150 : decode prog_7_method_10_code 150 = .ok (.invokevirtual 179, 3) ∧ lnkB 5 false 150 (.invokevirtual 179, 3, 35, 0, 0, 0) = true := by decide +kernel
theorem ck_34_156 : decode prog_7_method_10_code 156 = .ok (.goto (-87), 3) ∧ lnkB 5 false 156 (.goto (-87), 3, 69, 0, 0, 0) = true := by decide +kernel
theorem ck_34_159 : decode prog_7_method_10_code 159 = .ok (.return_, 1) ∧ lnkB 5 false 159 (.return_, 1, 0, 0, 0, 0) = true := by decide +kernel
abbrev RU_34 (d : Nat) (cp : Nat × Nat) (Post : Option Value → Sto → Prop) : PP := Runs (Ex d) prog_7_method_10_code 5 false 6 none none cp Post
theorem en_34 {d : Nat} {As : List Value} {S : Sto} {mc ms : Nat} {Post : Option Value → Sto → Prop} (hc : cats As ≤ 6) (h : RU_34 d (mc, ms) Post 0 (lv_args 0 As) [] S 0 0) : Ex (d + 1) 34 As S mc ms Post := ⟨by decide, hc, h⟩
def sg_35_0 : List RI := [(.aload_n 0, 1, 0, 0, 0, 0), (.getfield 9, 3, 5, 0, 2, 0), (.iload_n 1, 1, 0, 0, 0, 0), (.bipush 10, 2, 0, 0, 0, 10)]
theorem sk_35_0 : segB 5 false prog_7_method_11_code 0 sg_35_0 = true := by decide +kernel
def sg_35_8 : List RI := [(.aload_n 0, 1, 0, 0, 0, 0), (.getfield 32, 3, 5, 4, 2, 0), (.iload_n 1, 1, 0, 0, 0, 0), (.aload_n 0, 1, 0, 0, 0, 0), (.getfield 24, 3, 5, 2, 2, 0), (.getfield 129, 3, 1, 4, 0, 0)]
theorem sk_35_8 : segB 5 false prog_7_method_11_code 8 sg_35_8 = true := by decide +kernel
def sg_35_23 : List RI := [(.aload_n 0, 1, 0, 0, 0, 0), (.getfield 15, 3, 5, 7, 2, 0), (.iload_n 1, 1, 0, 0, 0, 0)]
theorem sk_35_23 : segB 5 false prog_7_method_11_code 23 sg_35_23 = true := by decide +kernel
def sg_35_29 : List RI := [(.istore_n 2, 1, 0, 0, 0, 0), (.iconst 0, 1, 0, 0, 0, 0), (.istore_n 3, 1, 0, 0, 0, 0)]
theorem sk_35_29 : segB 5 false prog_7_method_11_code 29 sg_35_29 = true := by decide +kernel
def sg_35_32 : List RI := [(.iload_n 3, 1, 0, 0, 0, 0), (.aload_n 0, 1, 0, 0, 0, 0), (.getfield 36, 3, 5, 5, 2, 0), (.getfield 185, 3, 9, 7, 0, 0)]
theorem sk_35_32 : segB 5 false prog_7_method_11_code 32 sg_35_32 = true := by decide +kernel
def sg_35_43 : List RI := [(.iload_n 2, 1, 0, 0, 0, 0), (.iload_n 3, 1, 0, 0, 0, 0), (.ishr, 1, 0, 0, 0, 0), (.iconst 1, 1, 0, 0, 0, 1), (.iand, 1, 0, 0, 0, 0)]
theorem sk_35_43 : segB 5 false prog_7_method_11_code 43 sg_35_43 = true := by decide +kernel
def sg_35_51 : List RI := [(.aload_n 0, 1, 0, 0, 0, 0), (.iload_n 3, 1, 0, 0, 0, 0), (.iload_n 1, 1, 0, 0, 0, 0), (.aload_n 0, 1, 0, 0, 0, 0), (.getfield 36, 3, 5, 5, 2, 0), (.getfield 188, 3, 9, 3, 2, 0), (.iload_n 3, 1, 0, 0, 0, 0)]
theorem sk_35_51 : segB 5 false prog_7_method_11_code 51 sg_35_51 = true := by decide +kernel
def sg_35_66 : List RI := [(.iinc 3 1, 3, 0, 0, 0, 1)]
theorem sk_35_66 : segB 5 false prog_7_method_11_code 66 sg_35_66 = true := by decide +kernel
theorem ca_35_7 : decode prog_7_method_11_code 7 = .ok (.iastore, 1) ∧ lnkB 5 false 7 (.iastore, 1, 0, 0, 0, 0) = true := by decide +kernel
theorem ck_35_20 : decode prog_7_method_11_code 20 = .ok (.invokevirtual 182, 3) ∧ lnkB 5 false 20 (.invokevirtual 182, 3, 42, 0, 0, 0) = true := by decide +kernel
theorem ca_35_28 : decode prog_7_method_11_code 28 = .ok (.iaload, 1) ∧ lnkB 5 false 28 (.iaload, 1, 0, 0, 0, 0) = true := by decide +kernel
theorem ck_35_40 : decode prog_7_method_11_code 40 = .ok (.if_icmp .ge 32, 3) ∧ lnkB 5 false 40 (.if_icmp .ge 32, 3, 72, 0, 0, 0) = true := by decide +kernel
theorem ck_35_48 : decode prog_7_method_11_code 48 = .ok (.ifCond .eq 18, 3) ∧ lnkB 5 false 48 (.ifCond .eq 18, 3, 66, 0, 0, 0) = true := by decide +kernel
theorem ca_35_62 : decode prog_7_method_11_code 62 = .ok (.iaload, 1) ∧ lnkB 5 false 62 (.iaload, 1, 0, 0, 0, 0) = true := by decide +kernel
theorem ck_35_63 : decode prog_7_method_11_code 63 = .ok (.invokevirtual 102, 3) ∧ lnkB 5 false 63 (.invokevirtual 102, 3, 27, 0, 0, 0) = true := by decide +kernel
theorem ck_35_69 : decode prog_7_method_11_code 69 = .ok (.goto (-37), 3) ∧ lnkB 5 false 69 (.goto (-37), 3, 32, 0, 0, 0) = true := by decide +kernel
theorem ck_35_72 : decode prog_7_method_11_code 72 = .ok (.return_, 1) ∧ lnkB 5 false 72 (.return_, 1, 0, 0, 0, 0) = true := by decide +kernel
abbrev RU_35 (d : Nat) (cp : Nat × Nat) (Post : Option Value → Sto → Prop) : PP := Runs (Ex d) prog_7_method_11_code 5 false 4 none none cp Post
theorem en_35 {d : Nat} {As : List Value} {S : Sto} {mc ms : Nat} {Post : Option Value → Sto → Prop} (hc : cats As ≤ 4) (h : RU_35 d (mc, ms) Post 0 (lv_args 0 As) [] S 0 0) : Ex (d + 1) 35 As S mc ms Post := ⟨by decide, hc, h⟩
def sg_36_0 : List RI := [(.aload_n 0, 1, 0, 0, 0, 0), (.getfield 40, 3, 5, 6, 2, 0), (.getfield 93, 3, 0, 6, 0, 0), (.istore_n 1, 1, 0, 0, 0, 0)]
theorem sk_36_0 : segB 5 false prog_7_method_16_code 0 sg_36_0 = true := by decide +kernel
def sg_36_8 : List RI := [(.iload_n 1, 1, 0, 0, 0, 0), (.aload_n 0, 1, 0, 0, 0, 0), (.getfield 40, 3, 5, 6, 2, 0), (.getfield 96, 3, 0, 5, 0, 0)]
theorem sk_36_8 : segB 5 false prog_7_method_16_code 8 sg_36_8 = true := by decide +kernel
def sg_36_19 : List RI := [(.aload_n 0, 1, 0, 0, 0, 0), (.getfield 40, 3, 5, 6, 2, 0), (.getfield 150, 3, 0, 4, 2, 0), (.iload_n 1, 1, 0, 0, 0, 0)]
theorem sk_36_19 : segB 5 false prog_7_method_16_code 19 sg_36_19 = true := by decide +kernel
def sg_36_28 : List RI := [(.iconst 3, 1, 0, 0, 0, 3)]
theorem sk_36_28 : segB 5 false prog_7_method_16_code 28 sg_36_28 = true := by decide +kernel
def sg_36_32 : List RI := [(.aload_n 0, 1, 0, 0, 0, 0), (.getfield 40, 3, 5, 6, 2, 0), (.getfield 150, 3, 0, 4, 2, 0), (.iload_n 1, 1, 0, 0, 0, 0), (.iconst 2, 1, 0, 0, 0, 2)]
theorem sk_36_32 : segB 5 false prog_7_method_16_code 32 sg_36_32 = true := by decide +kernel
def sg_36_42 : List RI := [(.aload_n 0, 1, 0, 0, 0, 0), (.getfield 28, 3, 5, 3, 2, 0), (.getfield 138, 3, 3, 0, 2, 0), (.aload_n 0, 1, 0, 0, 0, 0), (.getfield 40, 3, 5, 6, 2, 0), (.getfield 144, 3, 0, 0, 2, 0), (.iload_n 1, 1, 0, 0, 0, 0)]
theorem sk_36_42 : segB 5 false prog_7_method_16_code 42 sg_36_42 = true := by decide +kernel
def sg_36_59 : List RI := [(.astore_n 2, 1, 0, 0, 0, 0), (.aload_n 2, 1, 0, 0, 0, 0), (.getfield 214, 3, 2, 8, 0, 0), (.iload_n 1, 1, 0, 0, 0, 0)]
theorem sk_36_59 : segB 5 false prog_7_method_16_code 59 sg_36_59 = true := by decide +kernel
def sg_36_68 : List RI := [(.aload_n 2, 1, 0, 0, 0, 0), (.aload_n 0, 1, 0, 0, 0, 0), (.getfield 24, 3, 5, 2, 2, 0), (.getfield 129, 3, 1, 4, 0, 0)]
theorem sk_36_68 : segB 5 false prog_7_method_16_code 68 sg_36_68 = true := by decide +kernel
def sg_36_79 : List RI := [(.iinc 1 1, 3, 0, 0, 0, 1)]
theorem sk_36_79 : segB 5 false prog_7_method_16_code 79 sg_36_79 = true := by decide +kernel
def sg_36_85 : List RI := [(.iconst 0, 1, 0, 0, 0, 0), (.istore_n 1, 1, 0, 0, 0, 0)]
theorem sk_36_85 : segB 5 false prog_7_method_16_code 85 sg_36_85 = true := by decide +kernel
def sg_36_87 : List RI := [(.iload_n 1, 1, 0, 0, 0, 0), (.aload_n 0, 1, 0, 0, 0, 0), (.getfield 84, 3, 5, 1, 0, 0)]
theorem sk_36_87 : segB 5 false prog_7_method_16_code 87 sg_36_87 = true := by decide +kernel
def sg_36_95 : List RI := [(.aload_n 0, 1, 0, 0, 0, 0), (.getfield 18, 3, 5, 8, 2, 0), (.iload_n 1, 1, 0, 0, 0, 0)]
theorem sk_36_95 : segB 5 false prog_7_method_16_code 95 sg_36_95 = true := by decide +kernel
def sg_36_101 : List RI := [(.istore_n 2, 1, 0, 0, 0, 0), (.aload_n 0, 1, 0, 0, 0, 0), (.getfield 9, 3, 5, 0, 2, 0), (.iload_n 2, 1, 0, 0, 0, 0)]
theorem sk_36_101 : segB 5 false prog_7_method_16_code 101 sg_36_101 = true := by decide +kernel
def sg_36_108 : List RI := [(.bipush 11, 2, 0, 0, 0, 11)]
theorem sk_36_108 : segB 5 false prog_7_method_16_code 108 sg_36_108 = true := by decide +kernel
def sg_36_113 : List RI := [(.aload_n 0, 1, 0, 0, 0, 0), (.getfield 9, 3, 5, 0, 2, 0), (.iload_n 2, 1, 0, 0, 0, 0)]
theorem sk_36_113 : segB 5 false prog_7_method_16_code 113 sg_36_113 = true := by decide +kernel
def sg_36_119 : List RI := [(.bipush 12, 2, 0, 0, 0, 12)]
theorem sk_36_119 : segB 5 false prog_7_method_16_code 119 sg_36_119 = true := by decide +kernel
def sg_36_124 : List RI := [(.aload_n 0, 1, 0, 0, 0, 0), (.getfield 9, 3, 5, 0, 2, 0), (.iload_n 2, 1, 0, 0, 0, 0), (.iconst 5, 1, 0, 0, 0, 5)]
theorem sk_36_124 : segB 5 false prog_7_method_16_code 124 sg_36_124 = true := by decide +kernel
def sg_36_131 : List RI := [(.iinc 1 1, 3, 0, 0, 0, 1)]
theorem sk_36_131 : segB 5 false prog_7_method_16_code 131 sg_36_131 = true := by decide +kernel
theorem ck_36_16 : decode prog_7_method_16_code 16 = .ok (.if_icmp .ge 69, 3) ∧ lnkB 5 false 16 (.if_icmp .ge 69, 3, 85, 0, 0, 0) = true := by decide +kernel
theorem ca_36_27 : decode prog_7_method_16_code 27 = .ok (.iaload, 1) ∧ lnkB 5 false 27 (.iaload, 1, 0, 0, 0, 0) = true := by decide +kernel
theorem ck_36_29 : decode prog_7_method_16_code 29 = .ok (.if_icmp .ne 50, 3) ∧ lnkB 5 false 29 (.if_icmp .ne 50, 3, 79, 0, 0, 0) = true := by decide +kernel
theorem ca_36_41 : decode prog_7_method_16_code 41 = .ok (.iastore, 1) ∧ lnkB 5 false 41 (.iastore, 1, 0, 0, 0, 0) = true := by decide +kernel
theorem ca_36_57 : decode prog_7_method_16_code 57 = .ok (.iaload, 1) ∧ lnkB 5 false 57 (.iaload, 1, 0, 0, 0, 0) = true := by decide +kernel
theorem ca_36_58 : decode prog_7_method_16_code 58 = .ok (.aaload, 1) ∧ lnkB 5 false 58 (.aaload, 1, 0, 0, 0, 0) = true := by decide +kernel
theorem ck_36_65 : decode prog_7_method_16_code 65 = .ok (.if_icmp .ne 14, 3) ∧ lnkB 5 false 65 (.if_icmp .ne 14, 3, 79, 0, 0, 0) = true := by decide +kernel
theorem ck_36_76 : decode prog_7_method_16_code 76 = .ok (.invokevirtual 223, 3) ∧ lnkB 5 false 76 (.invokevirtual 223, 3, 12, 0, 0, 0) = true := by decide +kernel
theorem ck_36_82 : decode prog_7_method_16_code 82 = .ok (.goto (-74), 3) ∧ lnkB 5 false 82 (.goto (-74), 3, 8, 0, 0, 0) = true := by decide +kernel
theorem ck_36_92 : decode prog_7_method_16_code 92 = .ok (.if_icmp .ge 45, 3) ∧ lnkB 5 false 92 (.if_icmp .ge 45, 3, 137, 0, 0, 0) = true := by decide +kernel
theorem ca_36_100 : decode prog_7_method_16_code 100 = .ok (.iaload, 1) ∧ lnkB 5 false 100 (.iaload, 1, 0, 0, 0, 0) = true := by decide +kernel
theorem ca_36_107 : decode prog_7_method_16_code 107 = .ok (.iaload, 1) ∧ lnkB 5 false 107 (.iaload, 1, 0, 0, 0, 0) = true := by decide +kernel
theorem ck_36_110 : decode prog_7_method_16_code 110 = .ok (.if_icmp .eq 14, 3) ∧ lnkB 5 false 110 (.if_icmp .eq 14, 3, 124, 0, 0, 0) = true := by decide +kernel
theorem ca_36_118 : decode prog_7_method_16_code 118 = .ok (.iaload, 1) ∧ lnkB 5 false 118 (.iaload, 1, 0, 0, 0, 0) = true := by decide +kernel
theorem ck_36_121 : decode prog_7_method_16_code 121 = .ok (.if_icmp .ne 10, 3) ∧ lnkB 5 false 121 (.if_icmp .ne 10, 3, 131, 0, 0, 0) = true := by decide +kernel
theorem ca_36_130 : decode prog_7_method_16_code 130 = .ok (.iastore, 1) ∧ lnkB 5 false 130 (.iastore, 1, 0, 0, 0, 0) = true := by decide +kernel
theorem ck_36_134 : decode prog_7_method_16_code 134 = .ok (.goto (-47), 3) ∧ lnkB 5 false 134 (.goto (-47), 3, 87, 0, 0, 0) = true := by decide +kernel
theorem ck_36_137 : decode prog_7_method_16_code 137 = .ok (.return_, 1) ∧ lnkB 5 false 137 (.return_, 1, 0, 0, 0, 0) = true := by decide +kernel
abbrev RU_36 (d : Nat) (cp : Nat × Nat) (Post : Option Value → Sto → Prop) : PP := Runs (Ex d) prog_7_method_16_code 5 false 3 none none cp Post
theorem en_36 {d : Nat} {As : List Value} {S : Sto} {mc ms : Nat} {Post : Option Value → Sto → Prop} (hc : cats As ≤ 3) (h : RU_36 d (mc, ms) Post 0 (lv_args 0 As) [] S 0 0) : Ex (d + 1) 36 As S mc ms Post := ⟨by decide, hc, h⟩
def sg_37_0 : List RI := [(.iconst 0, 1, 0, 0, 0, 0), (.istore_n 1, 1, 0, 0, 0, 0), (.iconst 0, 1, 0, 0, 0, 0), (.istore_n 2, 1, 0, 0, 0, 0)]
theorem sk_37_0 : segB 5 false prog_7_method_3_code 0 sg_37_0 = true := by decide +kernel
def sg_37_4 : List RI := [(.iload_n 2, 1, 0, 0, 0, 0), (.sipush 192, 3, 0, 0, 0, 192)]
theorem sk_37_4 : segB 5 false prog_7_method_3_code 4 sg_37_4 = true := by decide +kernel
def sg_37_11 : List RI := [(.aload_n 0, 1, 0, 0, 0, 0), (.getfield 9, 3, 5, 0, 2, 0), (.iload_n 2, 1, 0, 0, 0, 0)]
theorem sk_37_11 : segB 5 false prog_7_method_3_code 11 sg_37_11 = true := by decide +kernel
def sg_37_17 : List RI := [(.iconst 1, 1, 0, 0, 0, 1), (.iconst 5, 1, 0, 0, 0, 5)]
theorem sk_37_17 : segB 5 false prog_7_method_3_code 17 sg_37_17 = true := by decide +kernel
def sg_37_25 : List RI := [(.iinc 1 1, 3, 0, 0, 0, 1)]
theorem sk_37_25 : segB 5 false prog_7_method_3_code 25 sg_37_25 = true := by decide +kernel
def sg_37_28 : List RI := [(.iinc 2 1, 3, 0, 0, 0, 1)]
theorem sk_37_28 : segB 5 false prog_7_method_3_code 28 sg_37_28 = true := by decide +kernel
def sg_37_34 : List RI := [(.iload_n 1, 1, 0, 0, 0, 0)]
theorem sk_37_34 : segB 5 false prog_7_method_3_code 34 sg_37_34 = true := by decide +kernel
theorem ck_37_8 : decode prog_7_method_3_code 8 = .ok (.if_icmp .ge 26, 3) ∧ lnkB 5 false 8 (.if_icmp .ge 26, 3, 34, 0, 0, 0) = true := by decide +kernel
theorem ca_37_16 : decode prog_7_method_3_code 16 = .ok (.iaload, 1) ∧ lnkB 5 false 16 (.iaload, 1, 0, 0, 0, 0) = true := by decide +kernel
theorem ck_37_19 : decode prog_7_method_3_code 19 = .ok (.invokestatic 74, 3) ∧ lnkB 5 false 19 (.invokestatic 74, 3, 57, 1, 0, 0) = true := by decide +kernel
theorem ck_37_22 : decode prog_7_method_3_code 22 = .ok (.ifCond .eq 6, 3) ∧ lnkB 5 false 22 (.ifCond .eq 6, 3, 28, 0, 0, 0) = true := by decide +kernel
theorem ck_37_31 : decode prog_7_method_3_code 31 = .ok (.goto (-27), 3) ∧ lnkB 5 false 31 (.goto (-27), 3, 4, 0, 0, 0) = true := by decide +kernel
theorem ck_37_35 : decode prog_7_method_3_code 35 = .ok (.ireturn, 1) ∧ lnkB 5 false 35 (.ireturn, 1, 0, 0, 0, 0) = true := by decide +kernel
abbrev RU_37 (d : Nat) (cp : Nat × Nat) (Post : Option Value → Sto → Prop) : PP := Runs (Ex d) prog_7_method_3_code 5 false 3 (some .int) none cp Post
theorem en_37 {d : Nat} {As : List Value} {S : Sto} {mc ms : Nat} {Post : Option Value → Sto → Prop} (hc : cats As ≤ 3) (h : RU_37 d (mc, ms) Post 0 (lv_args 0 As) [] S 0 0) : Ex (d + 1) 37 As S mc ms Post := ⟨by decide, hc, h⟩
def sg_38_0 : List RI := [(.aload_n 0, 1, 0, 0, 0, 0), (.invokespecial 3, 3, 0, 4, 0, 0), (.aload_n 0, 1, 0, 0, 0, 0), (.bipush 6, 2, 0, 0, 0, 6), (.newarray .int, 2, 13, 0, 0, 0), (.putfield 9, 3, 6, 0, 2, 0), (.aload_n 0, 1, 0, 0, 0, 0), (.bipush 6, 2, 0, 0, 0, 6), (.newarray .int, 2, 13, 0, 0, 0), (.putfield 15, 3, 6, 1, 2, 0), (.aload_n 0, 1, 0, 0, 0, 0), (.bipush 6, 2, 0, 0, 0, 6), (.newarray .int, 2, 13, 0, 0, 0), (.putfield 18, 3, 6, 2, 2, 0), (.aload_n 0, 1, 0, 0, 0, 0), (.bipush 24, 2, 0, 0, 0, 24), (.newarray .int, 2, 13, 0, 0, 0), (.putfield 21, 3, 6, 3, 2, 0), (.aload_n 0, 1, 0, 0, 0, 0), (.bipush 24, 2, 0, 0, 0, 24), (.newarray .int, 2, 13, 0, 0, 0), (.putfield 24, 3, 6, 4, 2, 0), (.aload_n 0, 1, 0, 0, 0, 0), (.bipush 24, 2, 0, 0, 0, 24), (.newarray .int, 2, 13, 0, 0, 0), (.putfield 27, 3, 6, 5, 2, 0), (.aload_n 0, 1, 0, 0, 0, 0), (.bipush 24, 2, 0, 0, 0, 24), (.newarray .boolean, 2, 15, 0, 0, 0), (.putfield 30, 3, 6, 6, 2, 0), (.aload_n 0, 1, 0, 0, 0, 0), (.sipush 192, 3, 0, 0, 0, 192), (.newarray .boolean, 2, 15, 0, 0, 0), (.putfield 34, 3, 6, 7, 2, 0), (.aload_n 0, 1, 0, 0, 0, 0), (.sipush 192, 3, 0, 0, 0, 192), (.newarray .int, 2, 13, 0, 0, 0), (.putfield 37, 3, 6, 8, 2, 0), (.aload_n 0, 1, 0, 0, 0, 0), (.sipush 768, 3, 0, 0, 0, 768), (.newarray .int, 2, 13, 0, 0, 0), (.putfield 40, 3, 6, 9, 2, 0), (.aload_n 0, 1, 0, 0, 0, 0), (.sipush 768, 3, 0, 0, 0, 768), (.newarray .int, 2, 13, 0, 0, 0), (.putfield 43, 3, 6, 10, 2, 0), (.aload_n 0, 1, 0, 0, 0, 0), (.sipush 768, 3, 0, 0, 0, 768), (.newarray .int, 2, 13, 0, 0, 0), (.putfield 46, 3, 6, 11, 2, 0), (.aload_n 0, 1, 0, 0, 0, 0), (.sipush 768, 3, 0, 0, 0, 768), (.newarray .int, 2, 13, 0, 0, 0), (.putfield 49, 3, 6, 12, 2, 0), (.aload_n 0, 1, 0, 0, 0, 0), (.getfield 15, 3, 6, 1, 2, 0), (.iconst 1, 1, 0, 0, 0, 1)]
theorem sk_38_0 : segB 6 true prog_8_method_1_code 0 sg_38_0 = true := by decide +kernel
def sg_38_122 : List RI := [(.aload_n 0, 1, 0, 0, 0, 0), (.getfield 27, 3, 6, 5, 2, 0), (.iconst 5, 1, 0, 0, 0, 5)]
theorem sk_38_122 : segB 6 true prog_8_method_1_code 122 sg_38_122 = true := by decide +kernel
def sg_38_130 : List RI := [(.aload_n 0, 1, 0, 0, 0, 0), (.getfield 43, 3, 6, 10, 2, 0), (.iconst (-1), 1, 0, 0, 0, -1)]
theorem sk_38_130 : segB 6 true prog_8_method_1_code 130 sg_38_130 = true := by decide +kernel
theorem ck_38_119 : decode prog_8_method_1_code 119 = .ok (.invokestatic 52, 3) ∧ lnkB 6 true 119 (.invokestatic 52, 3, 130, 0, 0, 0) = true := by decide +kernel
theorem ck_38_127 : decode prog_8_method_1_code 127 = .ok (.invokestatic 52, 3) ∧ lnkB 6 true 127 (.invokestatic 52, 3, 130, 0, 0, 0) = true := by decide +kernel
theorem ck_38_135 : decode prog_8_method_1_code 135 = .ok (.invokestatic 52, 3) ∧ lnkB 6 true 135 (.invokestatic 52, 3, 130, 0, 0, 0) = true := by decide +kernel
theorem ck_38_138 : decode prog_8_method_1_code 138 = .ok (.return_, 1) ∧ lnkB 6 true 138 (.return_, 1, 0, 0, 0, 0) = true := by decide +kernel
abbrev RU_38 (d : Nat) (cp : Nat × Nat) (Post : Option Value → Sto → Prop) : PP := Runs (Ex d) prog_8_method_1_code 6 true 1 none none cp Post
theorem en_38 {d : Nat} {As : List Value} {S : Sto} {mc ms : Nat} {Post : Option Value → Sto → Prop} (hc : cats As ≤ 1) (h : RU_38 d (mc, ms) Post 0 (lv_args 0 As) [] S 0 0) : Ex (d + 1) 38 As S mc ms Post := ⟨by decide, hc, h⟩
def sg_39_0 : List RI := [(.aload_n 0, 1, 0, 0, 0, 0), (.iload_n 1, 1, 0, 0, 0, 0), (.iload_n 2, 1, 0, 0, 0, 0)]
theorem sk_39_0 : segB 6 false prog_8_method_4_code 0 sg_39_0 = true := by decide +kernel
def sg_39_6 : List RI := [(.istore_n 3, 1, 0, 0, 0, 0), (.iload_n 1, 1, 0, 0, 0, 0), (.iconst 4, 1, 0, 0, 0, 4), (.imul, 1, 0, 0, 0, 0), (.iload_n 2, 1, 0, 0, 0, 0), (.iadd, 1, 0, 0, 0, 0), (.istore 4, 2, 0, 0, 0, 0), (.aload_n 0, 1, 0, 0, 0, 0), (.getfield 21, 3, 6, 3, 2, 0), (.iload_n 3, 1, 0, 0, 0, 0)]
theorem sk_39_6 : segB 6 false prog_8_method_4_code 6 sg_39_6 = true := by decide +kernel
def sg_39_48 : List RI := [(.aload_n 0, 1, 0, 0, 0, 0), (.getfield 43, 3, 6, 10, 2, 0), (.iload 4, 2, 0, 0, 0, 0)]
theorem sk_39_48 : segB 6 false prog_8_method_4_code 48 sg_39_48 = true := by decide +kernel
def sg_39_55 : List RI := [(.iconst (-1), 1, 0, 0, 0, -1)]
theorem sk_39_55 : segB 6 false prog_8_method_4_code 55 sg_39_55 = true := by decide +kernel
def sg_39_59 : List RI := [(.iconst 0, 1, 0, 0, 0, 0)]
theorem sk_39_59 : segB 6 false prog_8_method_4_code 59 sg_39_59 = true := by decide +kernel
def sg_39_63 : List RI := [(.iconst 1, 1, 0, 0, 0, 1)]
theorem sk_39_63 : segB 6 false prog_8_method_4_code 63 sg_39_63 = true := by decide +kernel
def sg_39_65 : List RI := [(.aload_n 0, 1, 0, 0, 0, 0), (.getfield 46, 3, 6, 11, 2, 0), (.iload 4, 2, 0, 0, 0, 0)]
theorem sk_39_65 : segB 6 false prog_8_method_4_code 65 sg_39_65 = true := by decide +kernel
def sg_39_72 : List RI := [(.aload_n 0, 1, 0, 0, 0, 0), (.getfield 27, 3, 6, 5, 2, 0), (.iload_n 3, 1, 0, 0, 0, 0)]
theorem sk_39_72 : segB 6 false prog_8_method_4_code 72 sg_39_72 = true := by decide +kernel
def sg_39_78 : List RI := [(.invokestatic 62, 3, 0, 2, 0, 0)]
theorem sk_39_78 : segB 6 false prog_8_method_4_code 78 sg_39_78 = true := by decide +kernel
def sg_39_82 : List RI := [(.iconst 0, 1, 0, 0, 0, 0)]
theorem sk_39_82 : segB 6 false prog_8_method_4_code 82 sg_39_82 = true := by decide +kernel
theorem ck_39_3 : decode prog_8_method_4_code 3 = .ok (.invokevirtual 58, 3) ∧ lnkB 6 false 3 (.invokevirtual 58, 3, 40, 0, 0, 0) = true := by decide +kernel
theorem ca_39_19 : decode prog_8_method_4_code 19 = .ok (.iaload, 1) ∧ lnkB 6 false 19 (.iaload, 1, 0, 0, 0, 0) = true := by decide +kernel
theorem ck_39_20 : decode prog_8_method_4_code 20 = .ok (.lookupswitch 62 #[(1, 28), (2, 45)], 28) ∧ lnkB 6 false 20 (.lookupswitch 62 #[(1, 28), (2, 45)], 28, 0, 0, 0, 0) = true := by decide +kernel
theorem ca_39_54 : decode prog_8_method_4_code 54 = .ok (.iaload, 1) ∧ lnkB 6 false 54 (.iaload, 1, 0, 0, 0, 0) = true := by decide +kernel
theorem ck_39_56 : decode prog_8_method_4_code 56 = .ok (.if_icmp .ne 7, 3) ∧ lnkB 6 false 56 (.if_icmp .ne 7, 3, 63, 0, 0, 0) = true := by decide +kernel
theorem ck_39_60 : decode prog_8_method_4_code 60 = .ok (.goto 4, 3) ∧ lnkB 6 false 60 (.goto 4, 3, 64, 0, 0, 0) = true := by decide +kernel
theorem ck_39_64 : decode prog_8_method_4_code 64 = .ok (.ireturn, 1) ∧ lnkB 6 false 64 (.ireturn, 1, 0, 0, 0, 0) = true := by decide +kernel
theorem ca_39_71 : decode prog_8_method_4_code 71 = .ok (.iaload, 1) ∧ lnkB 6 false 71 (.iaload, 1, 0, 0, 0, 0) = true := by decide +kernel
theorem ca_39_77 : decode prog_8_method_4_code 77 = .ok (.iaload, 1) ∧ lnkB 6 false 77 (.iaload, 1, 0, 0, 0, 0) = true := by decide +kernel
theorem ck_39_81 : decode prog_8_method_4_code 81 = .ok (.ireturn, 1) ∧ lnkB 6 false 81 (.ireturn, 1, 0, 0, 0, 0) = true := by decide +kernel
theorem ck_39_83 : decode prog_8_method_4_code 83 = .ok (.ireturn, 1) ∧ lnkB 6 false 83 (.ireturn, 1, 0, 0, 0, 0) = true := by decide +kernel
abbrev RU_39 (d : Nat) (cp : Nat × Nat) (Post : Option Value → Sto → Prop) : PP := Runs (Ex d) prog_8_method_4_code 6 false 5 (some .int) none cp Post
theorem en_39 {d : Nat} {As : List Value} {S : Sto} {mc ms : Nat} {Post : Option Value → Sto → Prop} (hc : cats As ≤ 5) (h : RU_39 d (mc, ms) Post 0 (lv_args 0 As) [] S 0 0) : Ex (d + 1) 39 As S mc ms Post := ⟨by decide, hc, h⟩
def sg_40_0 : List RI := [(.iload_n 1, 1, 0, 0, 0, 0), (.bipush 32, 2, 0, 0, 0, 32), (.idiv, 1, 0, 0, 0, 0), (.iconst 4, 1, 0, 0, 0, 4), (.imul, 1, 0, 0, 0, 0), (.iload_n 2, 1, 0, 0, 0, 0), (.iadd, 1, 0, 0, 0, 0)]
theorem sk_40_0 : segB 6 false prog_8_method_3_code 0 sg_40_0 = true := by decide +kernel
theorem ck_40_8 : decode prog_8_method_3_code 8 = .ok (.ireturn, 1) ∧ lnkB 6 false 8 (.ireturn, 1, 0, 0, 0, 0) = true := by decide +kernel
abbrev RU_40 (d : Nat) (cp : Nat × Nat) (Post : Option Value → Sto → Prop) : PP := Runs (Ex d) prog_8_method_3_code 6 false 3 (some .int) none cp Post
theorem en_40 {d : Nat} {As : List Value} {S : Sto} {mc ms : Nat} {Post : Option Value → Sto → Prop} (hc : cats As ≤ 3) (h : RU_40 d (mc, ms) Post 0 (lv_args 0 As) [] S 0 0) : Ex (d + 1) 40 As S mc ms Post := ⟨by decide, hc, h⟩
def sg_41_0 : List RI := [(.aload_n 0, 1, 0, 0, 0, 0), (.iload_n 1, 1, 0, 0, 0, 0), (.iload_n 2, 1, 0, 0, 0, 0)]
theorem sk_41_0 : segB 6 false prog_8_method_5_code 0 sg_41_0 = true := by decide +kernel
def sg_41_6 : List RI := [(.istore 4, 2, 0, 0, 0, 0), (.iload_n 1, 1, 0, 0, 0, 0), (.iconst 4, 1, 0, 0, 0, 4), (.imul, 1, 0, 0, 0, 0), (.iload_n 2, 1, 0, 0, 0, 0), (.iadd, 1, 0, 0, 0, 0), (.istore 5, 2, 0, 0, 0, 0), (.aload_n 0, 1, 0, 0, 0, 0), (.getfield 21, 3, 6, 3, 2, 0), (.iload 4, 2, 0, 0, 0, 0)]
theorem sk_41_6 : segB 6 false prog_8_method_5_code 6 sg_41_6 = true := by decide +kernel
def sg_41_22 : List RI := [(.iconst 1, 1, 0, 0, 0, 1)]
theorem sk_41_22 : segB 6 false prog_8_method_5_code 22 sg_41_22 = true := by decide +kernel
def sg_41_26 : List RI := [(.aload_n 0, 1, 0, 0, 0, 0), (.getfield 43, 3, 6, 10, 2, 0), (.iload 5, 2, 0, 0, 0, 0)]
theorem sk_41_26 : segB 6 false prog_8_method_5_code 26 sg_41_26 = true := by decide +kernel
def sg_41_36 : List RI := [(.aload_n 0, 1, 0, 0, 0, 0), (.getfield 49, 3, 6, 12, 2, 0), (.iload 5, 2, 0, 0, 0, 0)]
theorem sk_41_36 : segB 6 false prog_8_method_5_code 36 sg_41_36 = true := by decide +kernel
def sg_41_43 : List RI := [(.iload_n 3, 1, 0, 0, 0, 0), (.iconst 5, 1, 0, 0, 0, 5), (.imul, 1, 0, 0, 0, 0), (.iushr, 1, 0, 0, 0, 0)]
theorem sk_41_43 : segB 6 false prog_8_method_5_code 43 sg_41_43 = true := by decide +kernel
def sg_41_47 : List RI := [(.istore 6, 2, 0, 0, 0, 0), (.aload_n 0, 1, 0, 0, 0, 0), (.getfield 24, 3, 6, 4, 2, 0), (.iload 4, 2, 0, 0, 0, 0)]
theorem sk_41_47 : segB 6 false prog_8_method_5_code 47 sg_41_47 = true := by decide +kernel
def sg_41_56 : List RI := [(.bipush 32, 2, 0, 0, 0, 32), (.imul, 1, 0, 0, 0, 0), (.iload 6, 2, 0, 0, 0, 0), (.bipush 31, 2, 0, 0, 0, 31), (.iand, 1, 0, 0, 0, 0), (.iadd, 1, 0, 0, 0, 0)]
theorem sk_41_56 : segB 6 false prog_8_method_5_code 56 sg_41_56 = true := by decide +kernel
theorem ck_41_3 : decode prog_8_method_5_code 3 = .ok (.invokevirtual 58, 3) ∧ lnkB 6 false 3 (.invokevirtual 58, 3, 40, 0, 0, 0) = true := by decide +kernel
theorem ca_41_21 : decode prog_8_method_5_code 21 = .ok (.iaload, 1) ∧ lnkB 6 false 21 (.iaload, 1, 0, 0, 0, 0) = true := by decide +kernel
theorem ck_41_23 : decode prog_8_method_5_code 23 = .ok (.if_icmp .ne 13, 3) ∧ lnkB 6 false 23 (.if_icmp .ne 13, 3, 36, 0, 0, 0) = true := by decide +kernel
theorem ca_41_32 : decode prog_8_method_5_code 32 = .ok (.iaload, 1) ∧ lnkB 6 false 32 (.iaload, 1, 0, 0, 0, 0) = true := by decide +kernel
theorem ck_41_33 : decode prog_8_method_5_code 33 = .ok (.goto 14, 3) ∧ lnkB 6 false 33 (.goto 14, 3, 47, 0, 0, 0) = true := by decide +kernel
theorem ca_41_42 : decode prog_8_method_5_code 42 = .ok (.iaload, 1) ∧ lnkB 6 false 42 (.iaload, 1, 0, 0, 0, 0) = true := by decide +kernel
theorem ca_41_55 : decode prog_8_method_5_code 55 = .ok (.iaload, 1) ∧ lnkB 6 false 55 (.iaload, 1, 0, 0, 0, 0) = true := by decide +kernel
theorem ck_41_65 : decode prog_8_method_5_code 65 = .ok (.ireturn, 1) ∧ lnkB 6 false 65 (.ireturn, 1, 0, 0, 0, 0) = true := by decide +kernel
abbrev RU_41 (d : Nat) (cp : Nat × Nat) (Post : Option Value → Sto → Prop) : PP := Runs (Ex d) prog_8_method_5_code 6 false 7 (some .int) none cp Post
theorem en_41 {d : Nat} {As : List Value} {S : Sto} {mc ms : Nat} {Post : Option Value → Sto → Prop} (hc : cats As ≤ 7) (h : RU_41 d (mc, ms) Post 0 (lv_args 0 As) [] S 0 0) : Ex (d + 1) 41 As S mc ms Post := ⟨by decide, hc, h⟩
def sg_42_0 : List RI := [(.aload_n 0, 1, 0, 0, 0, 0), (.getfield 18, 3, 6, 2, 2, 0), (.iload_n 1, 1, 0, 0, 0, 0), (.bipush 32, 2, 0, 0, 0, 32), (.idiv, 1, 0, 0, 0, 0)]
theorem sk_42_0 : segB 6 false prog_8_method_2_code 0 sg_42_0 = true := by decide +kernel
def sg_42_9 : List RI := [(.istore_n 3, 1, 0, 0, 0, 0), (.iload_n 3, 1, 0, 0, 0, 0)]
theorem sk_42_9 : segB 6 false prog_8_method_2_code 9 sg_42_9 = true := by decide +kernel
def sg_42_14 : List RI := [(.aload_n 0, 1, 0, 0, 0, 0), (.getfield 37, 3, 6, 8, 2, 0), (.iload_n 1, 1, 0, 0, 0, 0), (.iload_n 2, 1, 0, 0, 0, 0), (.iload_n 3, 1, 0, 0, 0, 0), (.iadd, 1, 0, 0, 0, 0)]
theorem sk_42_14 : segB 6 false prog_8_method_2_code 14 sg_42_14 = true := by decide +kernel
theorem ca_42_8 : decode prog_8_method_2_code 8 = .ok (.iaload, 1) ∧ lnkB 6 false 8 (.iaload, 1, 0, 0, 0, 0) = true := by decide +kernel
theorem ck_42_11 : decode prog_8_method_2_code 11 = .ok (.ifCond .le 12, 3) ∧ lnkB 6 false 11 (.ifCond .le 12, 3, 23, 0, 0, 0) = true := by decide +kernel
theorem ca_42_22 : decode prog_8_method_2_code 22 = .ok (.iastore, 1) ∧ lnkB 6 false 22 (.iastore, 1, 0, 0, 0, 0) = true := by decide +kernel
theorem ck_42_23 : decode prog_8_method_2_code 23 = .ok (.return_, 1) ∧ lnkB 6 false 23 (.return_, 1, 0, 0, 0, 0) = true := by decide +kernel
abbrev RU_42 (d : Nat) (cp : Nat × Nat) (Post : Option Value → Sto → Prop) : PP := Runs (Ex d) prog_8_method_2_code 6 false 4 none none cp Post
theorem en_42 {d : Nat} {As : List Value} {S : Sto} {mc ms : Nat} {Post : Option Value → Sto → Prop} (hc : cats As ≤ 4) (h : RU_42 d (mc, ms) Post 0 (lv_args 0 As) [] S 0 0) : Ex (d + 1) 42 As S mc ms Post := ⟨by decide, hc, h⟩
def sg_43_0 : List RI := [(.aload_n 0, 1, 0, 0, 0, 0), (.invokespecial 3, 3, 0, 4, 0, 0), (.aload_n 0, 1, 0, 0, 0, 0), (.sipush 200, 3, 0, 0, 0, 200), (.newarray .int, 2, 13, 0, 0, 0), (.putfield 9, 3, 7, 0, 2, 0)]
theorem sk_43_0 : segB 7 true prog_9_method_1_code 0 sg_43_0 = true := by decide +kernel
theorem ck_43_13 : decode prog_9_method_1_code 13 = .ok (.return_, 1) ∧ lnkB 7 true 13 (.return_, 1, 0, 0, 0, 0) = true := by decide +kernel
abbrev RU_43 (d : Nat) (cp : Nat × Nat) (Post : Option Value → Sto → Prop) : PP := Runs (Ex d) prog_9_method_1_code 7 true 1 none none cp Post
theorem en_43 {d : Nat} {As : List Value} {S : Sto} {mc ms : Nat} {Post : Option Value → Sto → Prop} (hc : cats As ≤ 1) (h : RU_43 d (mc, ms) Post 0 (lv_args 0 As) [] S 0 0) : Ex (d + 1) 43 As S mc ms Post := ⟨by decide, hc, h⟩
def sg_44_0 : List RI := [(.bipush 24, 2, 0, 0, 0, 24), (.istore_n 2, 1, 0, 0, 0, 0)]
theorem sk_44_0 : segB 7 false prog_9_method_2_code 0 sg_44_0 = true := by decide +kernel
def sg_44_3 : List RI := [(.iload_n 2, 1, 0, 0, 0, 0)]
theorem sk_44_3 : segB 7 false prog_9_method_2_code 3 sg_44_3 = true := by decide +kernel
def sg_44_7 : List RI := [(.aload_n 0, 1, 0, 0, 0, 0), (.getfield 15, 3, 7, 1, 0, 0), (.sipush 200, 3, 0, 0, 0, 200)]
theorem sk_44_7 : segB 7 false prog_9_method_2_code 7 sg_44_7 = true := by decide +kernel
def sg_44_17 : List RI := [(.aload_n 0, 1, 0, 0, 0, 0), (.getfield 9, 3, 7, 0, 2, 0), (.aload_n 0, 1, 0, 0, 0, 0), (.getfield 15, 3, 7, 1, 0, 0), (.iload_n 1, 1, 0, 0, 0, 0), (.iload_n 2, 1, 0, 0, 0, 0), (.iushr, 1, 0, 0, 0, 0), (.sipush 255, 3, 0, 0, 0, 255), (.iand, 1, 0, 0, 0, 0)]
theorem sk_44_17 : segB 7 false prog_9_method_2_code 17 sg_44_17 = true := by decide +kernel
def sg_44_33 : List RI := [(.aload_n 0, 1, 0, 0, 0, 0), (.dup, 1, 0, 0, 0, 0), (.getfield 15, 3, 7, 1, 0, 0), (.iconst 1, 1, 0, 0, 0, 1), (.iadd, 1, 0, 0, 0, 0), (.putfield 15, 3, 7, 1, 0, 0), (.iinc 2 (-8), 3, 0, 0, 0, -8)]
theorem sk_44_33 : segB 7 false prog_9_method_2_code 33 sg_44_33 = true := by decide +kernel
theorem ck_44_4 : decode prog_9_method_2_code 4 = .ok (.ifCond .lt 45, 3) ∧ lnkB 7 false 4 (.ifCond .lt 45, 3, 49, 0, 0, 0) = true := by decide +kernel
theorem ck_44_14 : decode prog_9_method_2_code 14 = .ok (.if_icmp .ge 35, 3) ∧ lnkB 7 false 14 (.if_icmp .ge 35, 3, 49, 0, 0, 0) = true := by decide +kernel
theorem ca_44_32 : decode prog_9_method_2_code 32 = .ok (.iastore, 1) ∧ lnkB 7 false 32 (.iastore, 1, 0, 0, 0, 0) = true := by decide +kernel
theorem ck_44_46 : decode prog_9_method_2_code 46 = .ok (.goto (-43), 3) ∧ lnkB 7 false 46 (.goto (-43), 3, 3, 0, 0, 0) = true := by decide +kernel
theorem ck_44_49 : decode prog_9_method_2_code 49 = .ok (.return_, 1) ∧ lnkB 7 false 49 (.return_, 1, 0, 0, 0, 0) = true := by decide +kernel
abbrev RU_44 (d : Nat) (cp : Nat × Nat) (Post : Option Value → Sto → Prop) : PP := Runs (Ex d) prog_9_method_2_code 7 false 3 none none cp Post
theorem en_44 {d : Nat} {As : List Value} {S : Sto} {mc ms : Nat} {Post : Option Value → Sto → Prop} (hc : cats As ≤ 3) (h : RU_44 d (mc, ms) Post 0 (lv_args 0 As) [] S 0 0) : Ex (d + 1) 44 As S mc ms Post := ⟨by decide, hc, h⟩
def sg_45_0 : List RI := [(.aload_n 0, 1, 0, 0, 0, 0), (.invokespecial 3, 3, 0, 4, 0, 0), (.aload_n 0, 1, 0, 0, 0, 0), (.sipush 3500, 3, 0, 0, 0, 3500), (.newarray .int, 2, 13, 0, 0, 0), (.putfield 11, 3, 8, 0, 2, 0), (.aload_n 0, 1, 0, 0, 0, 0), (.aload_n 1, 1, 0, 0, 0, 0), (.putfield 15, 3, 8, 2, 2, 0), (.aload_n 0, 1, 0, 0, 0, 0), (.aload_n 2, 1, 0, 0, 0, 0), (.putfield 19, 3, 8, 3, 2, 0), (.aload_n 0, 1, 0, 0, 0, 0), (.aload_n 3, 1, 0, 0, 0, 0), (.putfield 23, 3, 8, 4, 2, 0)]
theorem sk_45_0 : segB 8 true prog_10_method_1_code 0 sg_45_0 = true := by decide +kernel
theorem ck_45_28 : decode prog_10_method_1_code 28 = .ok (.return_, 1) ∧ lnkB 8 true 28 (.return_, 1, 0, 0, 0, 0) = true := by decide +kernel
abbrev RU_45 (d : Nat) (cp : Nat × Nat) (Post : Option Value → Sto → Prop) : PP := Runs (Ex d) prog_10_method_1_code 8 true 4 none none cp Post
theorem en_45 {d : Nat} {As : List Value} {S : Sto} {mc ms : Nat} {Post : Option Value → Sto → Prop} (hc : cats As ≤ 4) (h : RU_45 d (mc, ms) Post 0 (lv_args 0 As) [] S 0 0) : Ex (d + 1) 45 As S mc ms Post := ⟨by decide, hc, h⟩
def sg_46_0 : List RI := [(.aload_n 0, 1, 0, 0, 0, 0), (.iconst 0, 1, 0, 0, 0, 0), (.putfield 26, 3, 8, 1, 0, 0), (.aload_n 0, 1, 0, 0, 0, 0), (.iconst 0, 1, 0, 0, 0, 0), (.putfield 30, 3, 8, 5, 0, 0), (.aload_n 0, 1, 0, 0, 0, 0), (.iconst 0, 1, 0, 0, 0, 0), (.iload_n 1, 1, 0, 0, 0, 0), (.iconst 1, 1, 0, 0, 0, 1)]
theorem sk_46_0 : segB 8 false prog_10_method_2_code 0 sg_46_0 = true := by decide +kernel
def sg_46_17 : List RI := [(.pop, 1, 0, 0, 0, 0), (.aload_n 0, 1, 0, 0, 0, 0), (.getfield 30, 3, 8, 5, 0, 0)]
theorem sk_46_17 : segB 8 false prog_10_method_2_code 17 sg_46_17 = true := by decide +kernel
theorem ck_46_14 : decode prog_10_method_2_code 14 = .ok (.invokevirtual 34, 3) ∧ lnkB 8 false 14 (.invokevirtual 34, 3, 47, 0, 0, 0) = true := by decide +kernel
theorem ck_46_22 : decode prog_10_method_2_code 22 = .ok (.ireturn, 1) ∧ lnkB 8 false 22 (.ireturn, 1, 0, 0, 0, 0) = true := by decide +kernel
abbrev RU_46 (d : Nat) (cp : Nat × Nat) (Post : Option Value → Sto → Prop) : PP := Runs (Ex d) prog_10_method_2_code 8 false 2 (some .boolean) none cp Post
theorem en_46 {d : Nat} {As : List Value} {S : Sto} {mc ms : Nat} {Post : Option Value → Sto → Prop} (hc : cats As ≤ 2) (h : RU_46 d (mc, ms) Post 0 (lv_args 0 As) [] S 0 0) : Ex (d + 1) 46 As S mc ms Post := ⟨by decide, hc, h⟩
def sg_47_0 : List RI := [(.aload_n 0, 1, 0, 0, 0, 0), (.getfield 23, 3, 8, 4, 2, 0), (.iload_n 2, 1, 0, 0, 0, 0)]
theorem sk_47_0 : segB 8 false prog_10_method_3_code 0 sg_47_0 = true := by decide +kernel
def sg_47_6 : List RI := [(.bipush 10, 2, 0, 0, 0, 10)]
theorem sk_47_6 : segB 8 false prog_10_method_3_code 6 sg_47_6 = true := by decide +kernel
def sg_47_11 : List RI := [(.iload_n 3, 1, 0, 0, 0, 0), (.iconst 5, 1, 0, 0, 0, 5)]
theorem sk_47_11 : segB 8 false prog_10_method_3_code 11 sg_47_11 = true := by decide +kernel
def sg_47_16 : List RI := [(.iload_n 1, 1, 0, 0, 0, 0), (.iconst (-1), 1, 0, 0, 0, -1)]
theorem sk_47_16 : segB 8 false prog_10_method_3_code 16 sg_47_16 = true := by decide +kernel
def sg_47_21 : List RI := [(.aload_n 0, 1, 0, 0, 0, 0), (.aload_n 0, 1, 0, 0, 0, 0), (.getfield 23, 3, 8, 4, 2, 0), (.iload_n 2, 1, 0, 0, 0, 0)]
theorem sk_47_21 : segB 8 false prog_10_method_3_code 21 sg_47_21 = true := by decide +kernel
def sg_47_32 : List RI := [(.aload_n 0, 1, 0, 0, 0, 0), (.getfield 26, 3, 8, 1, 0, 0), (.istore 4, 2, 0, 0, 0, 0), (.aload_n 0, 1, 0, 0, 0, 0), (.iconst 1, 1, 0, 0, 0, 1)]
theorem sk_47_32 : segB 8 false prog_10_method_3_code 32 sg_47_32 = true := by decide +kernel
def sg_47_43 : List RI := [(.iconst 0, 1, 0, 0, 0, 0), (.istore 5, 2, 0, 0, 0, 0)]
theorem sk_47_43 : segB 8 false prog_10_method_3_code 43 sg_47_43 = true := by decide +kernel
def sg_47_46 : List RI := [(.iload 5, 2, 0, 0, 0, 0), (.aload_n 0, 1, 0, 0, 0, 0), (.getfield 19, 3, 8, 3, 2, 0), (.getfield 48, 3, 9, 4, 2, 0), (.iload_n 1, 1, 0, 0, 0, 0)]
theorem sk_47_46 : segB 8 false prog_10_method_3_code 46 sg_47_46 = true := by decide +kernel
def sg_47_60 : List RI := [(.iload_n 1, 1, 0, 0, 0, 0), (.bipush 6, 2, 0, 0, 0, 6), (.imul, 1, 0, 0, 0, 0), (.iload 5, 2, 0, 0, 0, 0), (.iadd, 1, 0, 0, 0, 0), (.istore 6, 2, 0, 0, 0, 0), (.aload_n 0, 1, 0, 0, 0, 0), (.iload 6, 2, 0, 0, 0, 0), (.iload_n 2, 1, 0, 0, 0, 0), (.iload_n 3, 1, 0, 0, 0, 0)]
theorem sk_47_60 : segB 8 false prog_10_method_3_code 60 sg_47_60 = true := by decide +kernel
def sg_47_77 : List RI := [(.istore 7, 2, 0, 0, 0, 0), (.iload 7, 2, 0, 0, 0, 0)]
theorem sk_47_77 : segB 8 false prog_10_method_3_code 77 sg_47_77 = true := by decide +kernel
def sg_47_84 : List RI := [(.aload_n 0, 1, 0, 0, 0, 0), (.getfield 15, 3, 8, 2, 2, 0), (.getfield 56, 3, 6, 6, 2, 0), (.aload_n 0, 1, 0, 0, 0, 0), (.getfield 15, 3, 8, 2, 2, 0), (.iload_n 2, 1, 0, 0, 0, 0), (.aload_n 0, 1, 0, 0, 0, 0), (.getfield 19, 3, 8, 3, 2, 0), (.getfield 62, 3, 9, 5, 2, 0), (.iload 6, 2, 0, 0, 0, 0)]
theorem sk_47_84 : segB 8 false prog_10_method_3_code 84 sg_47_84 = true := by decide +kernel
def sg_47_113 : List RI := [(.aload_n 0, 1, 0, 0, 0, 0), (.iload 4, 2, 0, 0, 0, 0), (.putfield 26, 3, 8, 1, 0, 0), (.aload_n 0, 1, 0, 0, 0, 0), (.bipush 6, 2, 0, 0, 0, 6)]
theorem sk_47_113 : segB 8 false prog_10_method_3_code 113 sg_47_113 = true := by decide +kernel
def sg_47_126 : List RI := [(.iinc 5 1, 3, 0, 0, 0, 1)]
theorem sk_47_126 : segB 8 false prog_10_method_3_code 126 sg_47_126 = true := by decide +kernel
def sg_47_132 : List RI := [(.iconst 1, 1, 0, 0, 0, 1)]
theorem sk_47_132 : segB 8 false prog_10_method_3_code 132 sg_47_132 = true := by decide +kernel
theorem ca_47_5 : decode prog_10_method_3_code 5 = .ok (.iaload, 1) ∧ lnkB 8 false 5 (.iaload, 1, 0, 0, 0, 0) = true := by decide +kernel
theorem ck_47_8 : decode prog_10_method_3_code 8 = .ok (.if_icmp .ne 13, 3) ∧ lnkB 8 false 8 (.if_icmp .ne 13, 3, 21, 0, 0, 0) = true := by decide +kernel
theorem ck_47_13 : decode prog_10_method_3_code 13 = .ok (.if_icmp .gt 8, 3) ∧ lnkB 8 false 13 (.if_icmp .gt 8, 3, 21, 0, 0, 0) = true := by decide +kernel
theorem ck_47_18 : decode prog_10_method_3_code 18 = .ok (.if_icmp .ne 14, 3) ∧ lnkB 8 false 18 (.if_icmp .ne 14, 3, 32, 0, 0, 0) = true := by decide +kernel
theorem ca_47_27 : decode prog_10_method_3_code 27 = .ok (.iaload, 1) ∧ lnkB 8 false 27 (.iaload, 1, 0, 0, 0, 0) = true := by decide +kernel
theorem ck_47_28 : decode prog_10_method_3_code 28 = .ok (.invokevirtual 40, 3) ∧ lnkB 8 false 28 (.invokevirtual 40, 3, 48, 0, 0, 0) = true := by decide +kernel
theorem ck_47_31 : decode prog_10_method_3_code 31 = .ok (.ireturn, 1) ∧ lnkB 8 false 31 (.ireturn, 1, 0, 0, 0, 0) = true := by decide +kernel
theorem ck_47_40 : decode prog_10_method_3_code 40 = .ok (.invokevirtual 44, 3) ∧ lnkB 8 false 40 (.invokevirtual 44, 3, 49, 0, 0, 0) = true := by decide +kernel
theorem ca_47_56 : decode prog_10_method_3_code 56 = .ok (.iaload, 1) ∧ lnkB 8 false 56 (.iaload, 1, 0, 0, 0, 0) = true := by decide +kernel
theorem ck_47_57 : decode prog_10_method_3_code 57 = .ok (.if_icmp .ge 75, 3) ∧ lnkB 8 false 57 (.if_icmp .ge 75, 3, 132, 0, 0, 0) = true := by decide +kernel
theorem ck_47_74 : decode prog_10_method_3_code 74 = .ok (.invokevirtual 53, 3) ∧ lnkB 8 false 74 (.invokevirtual 53, 3, 50, 0, 0, 0) = true := by decide +kernel
theorem ck_47_81 : decode prog_10_method_3_code 81 = .ok (.ifCond .ne 45, 3) ∧ lnkB 8 false 81 (.ifCond .ne 45, 3, 126, 0, 0, 0) = true := by decide +kernel
theorem ca_47_105 : decode prog_10_method_3_code 105 = .ok (.iaload, 1) ∧ lnkB 8 false 105 (.iaload, 1, 0, 0, 0, 0) = true := by decide +kernel
theorem ck_47_106 : decode prog_10_method_3_code 106 = .ok (.invokevirtual 65, 3) ∧ lnkB 8 false 106 (.invokevirtual 65, 3, 40, 0, 0, 0) = true := by decide +kernel
theorem ca_47_109 : decode prog_10_method_3_code 109 = .ok (.baload, 1) ∧ lnkB 8 false 109 (.baload, 1, 15, 0, 0, 0) = true := by decide +kernel
theorem ck_47_110 : decode prog_10_method_3_code 110 = .ok (.ifCond .eq 16, 3) ∧ lnkB 8 false 110 (.ifCond .eq 16, 3, 126, 0, 0, 0) = true := by decide +kernel
theorem ck_47_122 : decode prog_10_method_3_code 122 = .ok (.invokevirtual 40, 3) ∧ lnkB 8 false 122 (.invokevirtual 40, 3, 48, 0, 0, 0) = true := by decide +kernel
theorem ck_47_125 : decode prog_10_method_3_code 125 = .ok (.ireturn, 1) ∧ lnkB 8 false 125 (.ireturn, 1, 0, 0, 0, 0) = true := by decide +kernel
theorem ck_47_129 : decode prog_10_method_3_code 129 = .ok (.goto (-83), 3) ∧ lnkB 8 false 129 (.goto (-83), 3, 46, 0, 0, 0) = true := by decide +kernel
theorem ck_47_133 : decode prog_10_method_3_code 133 = .ok (.ireturn, 1) ∧ lnkB 8 false 133 (.ireturn, 1, 0, 0, 0, 0) = true := by decide +kernel
abbrev RU_47 (d : Nat) (cp : Nat × Nat) (Post : Option Value → Sto → Prop) : PP := Runs (Ex d) prog_10_method_3_code 8 false 8 (some .boolean) none cp Post
theorem en_47 {d : Nat} {As : List Value} {S : Sto} {mc ms : Nat} {Post : Option Value → Sto → Prop} (hc : cats As ≤ 8) (h : RU_47 d (mc, ms) Post 0 (lv_args 0 As) [] S 0 0) : Ex (d + 1) 47 As S mc ms Post := ⟨by decide, hc, h⟩
def sg_48_0 : List RI := [(.aload_n 0, 1, 0, 0, 0, 0), (.iconst 1, 1, 0, 0, 0, 1), (.putfield 30, 3, 8, 5, 0, 0), (.aload_n 0, 1, 0, 0, 0, 0), (.iconst 0, 1, 0, 0, 0, 0)]
theorem sk_48_0 : segB 8 false prog_10_method_5_code 0 sg_48_0 = true := by decide +kernel
def sg_48_10 : List RI := [(.aload_n 0, 1, 0, 0, 0, 0), (.iload_n 1, 1, 0, 0, 0, 0)]
theorem sk_48_10 : segB 8 false prog_10_method_5_code 10 sg_48_10 = true := by decide +kernel
def sg_48_15 : List RI := [(.iconst 0, 1, 0, 0, 0, 0)]
theorem sk_48_15 : segB 8 false prog_10_method_5_code 15 sg_48_15 = true := by decide +kernel
theorem ck_48_7 : decode prog_10_method_5_code 7 = .ok (.invokevirtual 44, 3) ∧ lnkB 8 false 7 (.invokevirtual 44, 3, 49, 0, 0, 0) = true := by decide +kernel
theorem ck_48_12 : decode prog_10_method_5_code 12 = .ok (.invokevirtual 44, 3) ∧ lnkB 8 false 12 (.invokevirtual 44, 3, 49, 0, 0, 0) = true := by decide +kernel
theorem ck_48_16 : decode prog_10_method_5_code 16 = .ok (.ireturn, 1) ∧ lnkB 8 false 16 (.ireturn, 1, 0, 0, 0, 0) = true := by decide +kernel
abbrev RU_48 (d : Nat) (cp : Nat × Nat) (Post : Option Value → Sto → Prop) : PP := Runs (Ex d) prog_10_method_5_code 8 false 2 (some .boolean) none cp Post
theorem en_48 {d : Nat} {As : List Value} {S : Sto} {mc ms : Nat} {Post : Option Value → Sto → Prop} (hc : cats As ≤ 2) (h : RU_48 d (mc, ms) Post 0 (lv_args 0 As) [] S 0 0) : Ex (d + 1) 48 As S mc ms Post := ⟨by decide, hc, h⟩
def sg_49_0 : List RI := [(.aload_n 0, 1, 0, 0, 0, 0), (.getfield 26, 3, 8, 1, 0, 0), (.sipush 3500, 3, 0, 0, 0, 3500)]
theorem sk_49_0 : segB 8 false prog_10_method_6_code 0 sg_49_0 = true := by decide +kernel
def sg_49_10 : List RI := [(.aload_n 0, 1, 0, 0, 0, 0), (.getfield 11, 3, 8, 0, 2, 0), (.aload_n 0, 1, 0, 0, 0, 0), (.getfield 26, 3, 8, 1, 0, 0), (.iload_n 1, 1, 0, 0, 0, 0)]
theorem sk_49_10 : segB 8 false prog_10_method_6_code 10 sg_49_10 = true := by decide +kernel
def sg_49_20 : List RI := [(.aload_n 0, 1, 0, 0, 0, 0), (.dup, 1, 0, 0, 0, 0), (.getfield 26, 3, 8, 1, 0, 0), (.iconst 1, 1, 0, 0, 0, 1), (.iadd, 1, 0, 0, 0, 0), (.putfield 26, 3, 8, 1, 0, 0)]
theorem sk_49_20 : segB 8 false prog_10_method_6_code 20 sg_49_20 = true := by decide +kernel
theorem ck_49_7 : decode prog_10_method_6_code 7 = .ok (.if_icmp .ge 23, 3) ∧ lnkB 8 false 7 (.if_icmp .ge 23, 3, 30, 0, 0, 0) = true := by decide +kernel
theorem ca_49_19 : decode prog_10_method_6_code 19 = .ok (.iastore, 1) ∧ lnkB 8 false 19 (.iastore, 1, 0, 0, 0, 0) = true := by decide +kernel
theorem ck_49_30 : decode prog_10_method_6_code 30 = .ok (.return_, 1) ∧ lnkB 8 false 30 (.return_, 1, 0, 0, 0, 0) = true := by decide +kernel
abbrev RU_49 (d : Nat) (cp : Nat × Nat) (Post : Option Value → Sto → Prop) : PP := Runs (Ex d) prog_10_method_6_code 8 false 2 none none cp Post
theorem en_49 {d : Nat} {As : List Value} {S : Sto} {mc ms : Nat} {Post : Option Value → Sto → Prop} (hc : cats As ≤ 2) (h : RU_49 d (mc, ms) Post 0 (lv_args 0 As) [] S 0 0) : Ex (d + 1) 49 As S mc ms Post := ⟨by decide, hc, h⟩
def sg_50_0 : List RI := [(.aload_n 0, 1, 0, 0, 0, 0), (.getfield 19, 3, 8, 3, 2, 0), (.getfield 62, 3, 9, 5, 2, 0), (.iload_n 1, 1, 0, 0, 0, 0)]
theorem sk_50_0 : segB 8 false prog_10_method_4_code 0 sg_50_0 = true := by decide +kernel
def sg_50_9 : List RI := [(.istore 4, 2, 0, 0, 0, 0), (.aload_n 0, 1, 0, 0, 0, 0), (.getfield 15, 3, 8, 2, 2, 0), (.getfield 69, 3, 6, 3, 2, 0), (.aload_n 0, 1, 0, 0, 0, 0), (.getfield 15, 3, 8, 2, 2, 0), (.iload_n 2, 1, 0, 0, 0, 0), (.iload 4, 2, 0, 0, 0, 0)]
theorem sk_50_9 : segB 8 false prog_10_method_4_code 9 sg_50_9 = true := by decide +kernel
def sg_50_29 : List RI := [(.istore 5, 2, 0, 0, 0, 0), (.iload 5, 2, 0, 0, 0, 0)]
theorem sk_50_29 : segB 8 false prog_10_method_4_code 29 sg_50_29 = true := by decide +kernel
def sg_50_36 : List RI := [(.aload_n 0, 1, 0, 0, 0, 0), (.aload_n 0, 1, 0, 0, 0, 0), (.getfield 15, 3, 8, 2, 2, 0), (.getfield 72, 3, 6, 9, 2, 0), (.iload_n 2, 1, 0, 0, 0, 0), (.iconst 4, 1, 0, 0, 0, 4), (.imul, 1, 0, 0, 0, 0), (.iload 4, 2, 0, 0, 0, 0), (.iadd, 1, 0, 0, 0, 0)]
theorem sk_50_36 : segB 8 false prog_10_method_4_code 36 sg_50_36 = true := by decide +kernel
def sg_50_54 : List RI := [(.iconst 1, 1, 0, 0, 0, 1)]
theorem sk_50_54 : segB 8 false prog_10_method_4_code 54 sg_50_54 = true := by decide +kernel
def sg_50_56 : List RI := [(.aload_n 0, 1, 0, 0, 0, 0), (.getfield 15, 3, 8, 2, 2, 0), (.iload_n 2, 1, 0, 0, 0, 0), (.iload 4, 2, 0, 0, 0, 0)]
theorem sk_50_56 : segB 8 false prog_10_method_4_code 56 sg_50_56 = true := by decide +kernel
def sg_50_66 : List RI := [(.istore 6, 2, 0, 0, 0, 0), (.iload 5, 2, 0, 0, 0, 0), (.iconst 2, 1, 0, 0, 0, 2)]
theorem sk_50_66 : segB 8 false prog_10_method_4_code 66 sg_50_66 = true := by decide +kernel
def sg_50_74 : List RI := [(.aload_n 0, 1, 0, 0, 0, 0), (.iload 6, 2, 0, 0, 0, 0)]
theorem sk_50_74 : segB 8 false prog_10_method_4_code 74 sg_50_74 = true := by decide +kernel
def sg_50_83 : List RI := [(.iload 6, 2, 0, 0, 0, 0)]
theorem sk_50_83 : segB 8 false prog_10_method_4_code 83 sg_50_83 = true := by decide +kernel
def sg_50_88 : List RI := [(.aload_n 0, 1, 0, 0, 0, 0), (.iconst 2, 1, 0, 0, 0, 2)]
theorem sk_50_88 : segB 8 false prog_10_method_4_code 88 sg_50_88 = true := by decide +kernel
def sg_50_94 : List RI := [(.iconst 1, 1, 0, 0, 0, 1), (.istore 7, 2, 0, 0, 0, 0), (.iconst 0, 1, 0, 0, 0, 0), (.istore 8, 2, 0, 0, 0, 0)]
theorem sk_50_94 : segB 8 false prog_10_method_4_code 94 sg_50_94 = true := by decide +kernel
def sg_50_100 : List RI := [(.iload 8, 2, 0, 0, 0, 0), (.iload 6, 2, 0, 0, 0, 0)]
theorem sk_50_100 : segB 8 false prog_10_method_4_code 100 sg_50_100 = true := by decide +kernel
def sg_50_107 : List RI := [(.aload_n 0, 1, 0, 0, 0, 0), (.aload_n 0, 1, 0, 0, 0, 0), (.getfield 19, 3, 8, 3, 2, 0), (.getfield 78, 3, 9, 6, 2, 0), (.iload_n 1, 1, 0, 0, 0, 0)]
theorem sk_50_107 : segB 8 false prog_10_method_4_code 107 sg_50_107 = true := by decide +kernel
def sg_50_117 : List RI := [(.aload_n 0, 1, 0, 0, 0, 0), (.getfield 15, 3, 8, 2, 2, 0), (.iload_n 2, 1, 0, 0, 0, 0), (.iload 4, 2, 0, 0, 0, 0), (.iload 8, 2, 0, 0, 0, 0)]
theorem sk_50_117 : segB 8 false prog_10_method_4_code 117 sg_50_117 = true := by decide +kernel
def sg_50_129 : List RI := [(.iload_n 3, 1, 0, 0, 0, 0), (.iconst 1, 1, 0, 0, 0, 1), (.iadd, 1, 0, 0, 0, 0)]
theorem sk_50_129 : segB 8 false prog_10_method_4_code 129 sg_50_129 = true := by decide +kernel
def sg_50_135 : List RI := [(.istore 9, 2, 0, 0, 0, 0), (.iload 7, 2, 0, 0, 0, 0)]
theorem sk_50_135 : segB 8 false prog_10_method_4_code 135 sg_50_135 = true := by decide +kernel
def sg_50_142 : List RI := [(.iload 9, 2, 0, 0, 0, 0)]
theorem sk_50_142 : segB 8 false prog_10_method_4_code 142 sg_50_142 = true := by decide +kernel
def sg_50_147 : List RI := [(.iconst 1, 1, 0, 0, 0, 1)]
theorem sk_50_147 : segB 8 false prog_10_method_4_code 147 sg_50_147 = true := by decide +kernel
def sg_50_151 : List RI := [(.iconst 0, 1, 0, 0, 0, 0)]
theorem sk_50_151 : segB 8 false prog_10_method_4_code 151 sg_50_151 = true := by decide +kernel
def sg_50_152 : List RI := [(.istore 7, 2, 0, 0, 0, 0), (.iinc 8 1, 3, 0, 0, 0, 1)]
theorem sk_50_152 : segB 8 false prog_10_method_4_code 152 sg_50_152 = true := by decide +kernel
def sg_50_160 : List RI := [(.iload 7, 2, 0, 0, 0, 0)]
theorem sk_50_160 : segB 8 false prog_10_method_4_code 160 sg_50_160 = true := by decide +kernel
theorem ca_50_8 : decode prog_10_method_4_code 8 = .ok (.iaload, 1) ∧ lnkB 8 false 8 (.iaload, 1, 0, 0, 0, 0) = true := by decide +kernel
theorem ck_50_25 : decode prog_10_method_4_code 25 = .ok (.invokevirtual 65, 3) ∧ lnkB 8 false 25 (.invokevirtual 65, 3, 40, 0, 0, 0) = true := by decide +kernel
theorem ca_50_28 : decode prog_10_method_4_code 28 = .ok (.iaload, 1) ∧ lnkB 8 false 28 (.iaload, 1, 0, 0, 0, 0) = true := by decide +kernel
theorem ck_50_33 : decode prog_10_method_4_code 33 = .ok (.ifCond .ne 23, 3) ∧ lnkB 8 false 33 (.ifCond .ne 23, 3, 56, 0, 0, 0) = true := by decide +kernel
theorem ca_50_50 : decode prog_10_method_4_code 50 = .ok (.iaload, 1) ∧ lnkB 8 false 50 (.iaload, 1, 0, 0, 0, 0) = true := by decide +kernel
theorem ck_50_51 : decode prog_10_method_4_code 51 = .ok (.invokevirtual 44, 3) ∧ lnkB 8 false 51 (.invokevirtual 44, 3, 49, 0, 0, 0) = true := by decide +kernel
theorem ck_50_55 : decode prog_10_method_4_code 55 = .ok (.ireturn, 1) ∧ lnkB 8 false 55 (.ireturn, 1, 0, 0, 0, 0) = true := by decide +kernel
theorem ck_50_63 : decode prog_10_method_4_code 63 = .ok (.invokevirtual 75, 3) ∧ lnkB 8 false 63 (.invokevirtual 75, 3, 39, 0, 0, 0) = true := by decide +kernel
theorem ck_50_71 : decode prog_10_method_4_code 71 = .ok (.if_icmp .ne 12, 3) ∧ lnkB 8 false 71 (.if_icmp .ne 12, 3, 83, 0, 0, 0) = true := by decide +kernel
theorem ck_50_77 : decode prog_10_method_4_code 77 = .ok (.invokevirtual 44, 3) ∧ lnkB 8 false 77 (.invokevirtual 44, 3, 49, 0, 0, 0) = true := by decide +kernel
theorem ck_50_80 : decode prog_10_method_4_code 80 = .ok (.goto 14, 3) ∧ lnkB 8 false 80 (.goto 14, 3, 94, 0, 0, 0) = true := by decide +kernel
theorem ck_50_85 : decode prog_10_method_4_code 85 = .ok (.ifCond .ne 9, 3) ∧ lnkB 8 false 85 (.ifCond .ne 9, 3, 94, 0, 0, 0) = true := by decide +kernel
theorem ck_50_90 : decode prog_10_method_4_code 90 = .ok (.invokevirtual 40, 3) ∧ lnkB 8 false 90 (.invokevirtual 40, 3, 48, 0, 0, 0) = true := by decide +kernel
theorem ck_50_93 : decode prog_10_method_4_code 93 = .ok (.ireturn, 1) ∧ lnkB 8 false 93 (.ireturn, 1, 0, 0, 0, 0) = true := by decide +kernel
theorem ck_50_104 : decode prog_10_method_4_code 104 = .ok (.if_icmp .ge 56, 3) ∧ lnkB 8 false 104 (.if_icmp .ge 56, 3, 160, 0, 0, 0) = true := by decide +kernel
theorem ca_50_116 : decode prog_10_method_4_code 116 = .ok (.iaload, 1) ∧ lnkB 8 false 116 (.iaload, 1, 0, 0, 0, 0) = true := by decide +kernel
theorem ck_50_126 : decode prog_10_method_4_code 126 = .ok (.invokevirtual 81, 3) ∧ lnkB 8 false 126 (.invokevirtual 81, 3, 41, 0, 0, 0) = true := by decide +kernel
theorem ck_50_132 : decode prog_10_method_4_code 132 = .ok (.invokevirtual 34, 3) ∧ lnkB 8 false 132 (.invokevirtual 34, 3, 47, 0, 0, 0) = true := by decide +kernel
theorem ck_50_139 : decode prog_10_method_4_code 139 = .ok (.ifCond .eq 12, 3) ∧ lnkB 8 false 139 (.ifCond .eq 12, 3, 151, 0, 0, 0) = true := by decide +kernel
theorem ck_50_144 : decode prog_10_method_4_code 144 = .ok (.ifCond .eq 7, 3) ∧ lnkB 8 false 144 (.ifCond .eq 7, 3, 151, 0, 0, 0) = true := by decide +kernel
theorem ck_50_148 : decode prog_10_method_4_code 148 = .ok (.goto 4, 3) ∧ lnkB 8 false 148 (.goto 4, 3, 152, 0, 0, 0) = true := by decide +kernel
theorem ck_50_157 : decode prog_10_method_4_code 157 = .ok (.goto (-57), 3) ∧ lnkB 8 false 157 (.goto (-57), 3, 100, 0, 0, 0) = true := by decide +kernel
theorem ck_50_162 : decode prog_10_method_4_code 162 = .ok (.ireturn, 1) ∧ lnkB 8 false 162 (.ireturn, 1, 0, 0, 0, 0) = true := by decide +kernel
abbrev RU_50 (d : Nat) (cp : Nat × Nat) (Post : Option Value → Sto → Prop) : PP := Runs (Ex d) prog_10_method_4_code 8 false 10 (some .boolean) none cp Post
theorem en_50 {d : Nat} {As : List Value} {S : Sto} {mc ms : Nat} {Post : Option Value → Sto → Prop} (hc : cats As ≤ 10) (h : RU_50 d (mc, ms) Post 0 (lv_args 0 As) [] S 0 0) : Ex (d + 1) 50 As S mc ms Post := ⟨by decide, hc, h⟩
def sg_51_0 : List RI := [(.aload_n 0, 1, 0, 0, 0, 0), (.invokespecial 3, 3, 0, 4, 0, 0), (.aload_n 0, 1, 0, 0, 0, 0), (.bipush 20, 2, 0, 0, 0, 20), (.newarray .int, 2, 13, 0, 0, 0), (.putfield 9, 3, 9, 0, 2, 0), (.aload_n 0, 1, 0, 0, 0, 0), (.bipush 20, 2, 0, 0, 0, 20), (.newarray .int, 2, 13, 0, 0, 0), (.putfield 15, 3, 9, 1, 2, 0), (.aload_n 0, 1, 0, 0, 0, 0), (.bipush 20, 2, 0, 0, 0, 20), (.newarray .int, 2, 13, 0, 0, 0), (.putfield 18, 3, 9, 2, 2, 0), (.aload_n 0, 1, 0, 0, 0, 0), (.bipush 20, 2, 0, 0, 0, 20), (.newarray .int, 2, 13, 0, 0, 0), (.putfield 21, 3, 9, 3, 2, 0), (.aload_n 0, 1, 0, 0, 0, 0), (.bipush 20, 2, 0, 0, 0, 20), (.newarray .int, 2, 13, 0, 0, 0), (.putfield 24, 3, 9, 4, 2, 0), (.aload_n 0, 1, 0, 0, 0, 0), (.bipush 120, 2, 0, 0, 0, 120), (.newarray .int, 2, 13, 0, 0, 0), (.putfield 27, 3, 9, 5, 2, 0), (.aload_n 0, 1, 0, 0, 0, 0), (.bipush 120, 2, 0, 0, 0, 120), (.newarray .int, 2, 13, 0, 0, 0), (.putfield 30, 3, 9, 6, 2, 0)]
theorem sk_51_0 : segB 9 true prog_11_method_1_code 0 sg_51_0 = true := by decide +kernel
theorem ck_51_60 : decode prog_11_method_1_code 60 = .ok (.return_, 1) ∧ lnkB 9 true 60 (.return_, 1, 0, 0, 0, 0) = true := by decide +kernel
abbrev RU_51 (d : Nat) (cp : Nat × Nat) (Post : Option Value → Sto → Prop) : PP := Runs (Ex d) prog_11_method_1_code 9 true 1 none none cp Post
theorem en_51 {d : Nat} {As : List Value} {S : Sto} {mc ms : Nat} {Post : Option Value → Sto → Prop} (hc : cats As ≤ 1) (h : RU_51 d (mc, ms) Post 0 (lv_args 0 As) [] S 0 0) : Ex (d + 1) 51 As S mc ms Post := ⟨by decide, hc, h⟩
def sg_52_0 : List RI := [(.lconst 0, 1, 0, 0, 0, 0), (.lstore_n 2, 1, 0, 0, 0, 0), (.iconst 0, 1, 0, 0, 0, 0), (.istore 4, 2, 0, 0, 0, 0)]
theorem sk_52_0 : segB 9 false prog_11_method_2_code 0 sg_52_0 = true := by decide +kernel
def sg_52_5 : List RI := [(.iload 4, 2, 0, 0, 0, 0), (.aload_n 0, 1, 0, 0, 0, 0), (.getfield 33, 3, 9, 7, 0, 0)]
theorem sk_52_5 : segB 9 false prog_11_method_2_code 5 sg_52_5 = true := by decide +kernel
def sg_52_14 : List RI := [(.lload_n 2, 1, 0, 0, 0, 0), (.aload_n 0, 1, 0, 0, 0, 0), (.iload 4, 2, 0, 0, 0, 0), (.aload_n 1, 1, 0, 0, 0, 0)]
theorem sk_52_14 : segB 9 false prog_11_method_2_code 14 sg_52_14 = true := by decide +kernel
def sg_52_22 : List RI := [(.ladd, 1, 0, 0, 0, 0), (.lstore_n 2, 1, 0, 0, 0, 0), (.iinc 4 1, 3, 0, 0, 0, 1)]
theorem sk_52_22 : segB 9 false prog_11_method_2_code 22 sg_52_22 = true := by decide +kernel
def sg_52_30 : List RI := [(.lload_n 2, 1, 0, 0, 0, 0), (.ldc2_w 41, 3, 0, 0, 0, 2000000000), (.invokestatic 43, 3, 0, 3, 0, 0), (.l2i, 1, 0, 0, 0, 0)]
theorem sk_52_30 : segB 9 false prog_11_method_2_code 30 sg_52_30 = true := by decide +kernel
theorem ck_52_11 : decode prog_11_method_2_code 11 = .ok (.if_icmp .ge 19, 3) ∧ lnkB 9 false 11 (.if_icmp .ge 19, 3, 30, 0, 0, 0) = true := by decide +kernel
theorem ck_52_19 : decode prog_11_method_2_code 19 = .ok (.invokevirtual 37, 3) ∧ lnkB 9 false 19 (.invokevirtual 37, 3, 53, 0, 0, 0) = true := by decide +kernel
theorem ck_52_27 : decode prog_11_method_2_code 27 = .ok (.goto (-22), 3) ∧ lnkB 9 false 27 (.goto (-22), 3, 5, 0, 0, 0) = true := by decide +kernel
theorem ck_52_38 : decode prog_11_method_2_code 38 = .ok (.ireturn, 1) ∧ lnkB 9 false 38 (.ireturn, 1, 0, 0, 0, 0) = true := by decide +kernel
abbrev RU_52 (d : Nat) (cp : Nat × Nat) (Post : Option Value → Sto → Prop) : PP := Runs (Ex d) prog_11_method_2_code 9 false 5 (some .int) none cp Post
theorem en_52 {d : Nat} {As : List Value} {S : Sto} {mc ms : Nat} {Post : Option Value → Sto → Prop} (hc : cats As ≤ 5) (h : RU_52 d (mc, ms) Post 0 (lv_args 0 As) [] S 0 0) : Ex (d + 1) 52 As S mc ms Post := ⟨by decide, hc, h⟩
def sg_53_0 : List RI := [(.aload_n 2, 1, 0, 0, 0, 0), (.getfield 49, 3, 6, 1, 2, 0), (.aload_n 0, 1, 0, 0, 0, 0), (.getfield 9, 3, 9, 0, 2, 0), (.iload_n 1, 1, 0, 0, 0, 0)]
theorem sk_53_0 : segB 9 false prog_11_method_4_code 0 sg_53_0 = true := by decide +kernel
def sg_53_11 : List RI := [(.i2l, 1, 0, 0, 0, 0), (.aload_n 0, 1, 0, 0, 0, 0), (.getfield 18, 3, 9, 2, 2, 0), (.iload_n 1, 1, 0, 0, 0, 0)]
theorem sk_53_11 : segB 9 false prog_11_method_4_code 11 sg_53_11 = true := by decide +kernel
def sg_53_18 : List RI := [(.i2l, 1, 0, 0, 0, 0), (.lmul, 1, 0, 0, 0, 0)]
theorem sk_53_18 : segB 9 false prog_11_method_4_code 18 sg_53_18 = true := by decide +kernel
theorem ca_53_9 : decode prog_11_method_4_code 9 = .ok (.iaload, 1) ∧ lnkB 9 false 9 (.iaload, 1, 0, 0, 0, 0) = true := by decide +kernel
theorem ca_53_10 : decode prog_11_method_4_code 10 = .ok (.iaload, 1) ∧ lnkB 9 false 10 (.iaload, 1, 0, 0, 0, 0) = true := by decide +kernel
theorem ca_53_17 : decode prog_11_method_4_code 17 = .ok (.iaload, 1) ∧ lnkB 9 false 17 (.iaload, 1, 0, 0, 0, 0) = true := by decide +kernel
theorem ck_53_20 : decode prog_11_method_4_code 20 = .ok (.lreturn, 1) ∧ lnkB 9 false 20 (.lreturn, 1, 0, 0, 0, 0) = true := by decide +kernel
abbrev RU_53 (d : Nat) (cp : Nat × Nat) (Post : Option Value → Sto → Prop) : PP := Runs (Ex d) prog_11_method_4_code 9 false 3 (some .long) none cp Post
theorem en_53 {d : Nat} {As : List Value} {S : Sto} {mc ms : Nat} {Post : Option Value → Sto → Prop} (hc : cats As ≤ 3) (h : RU_53 d (mc, ms) Post 0 (lv_args 0 As) [] S 0 0) : Ex (d + 1) 53 As S mc ms Post := ⟨by decide, hc, h⟩
def sg_54_0 : List RI := [(.lconst 0, 1, 0, 0, 0, 0), (.lstore_n 3, 1, 0, 0, 0, 0), (.iconst 0, 1, 0, 0, 0, 0), (.istore 5, 2, 0, 0, 0, 0)]
theorem sk_54_0 : segB 9 false prog_11_method_3_code 0 sg_54_0 = true := by decide +kernel
def sg_54_5 : List RI := [(.iload 5, 2, 0, 0, 0, 0), (.aload_n 0, 1, 0, 0, 0, 0), (.getfield 33, 3, 9, 7, 0, 0)]
theorem sk_54_5 : segB 9 false prog_11_method_3_code 5 sg_54_5 = true := by decide +kernel
def sg_54_14 : List RI := [(.lload_n 3, 1, 0, 0, 0, 0), (.aload_n 0, 1, 0, 0, 0, 0), (.iload 5, 2, 0, 0, 0, 0), (.aload_n 2, 1, 0, 0, 0, 0)]
theorem sk_54_14 : segB 9 false prog_11_method_3_code 14 sg_54_14 = true := by decide +kernel
def sg_54_22 : List RI := [(.ladd, 1, 0, 0, 0, 0), (.lstore_n 3, 1, 0, 0, 0, 0), (.lload_n 3, 1, 0, 0, 0, 0), (.iload_n 1, 1, 0, 0, 0, 0), (.i2l, 1, 0, 0, 0, 0), (.lcmp, 1, 0, 0, 0, 0)]
theorem sk_54_22 : segB 9 false prog_11_method_3_code 22 sg_54_22 = true := by decide +kernel
def sg_54_31 : List RI := [(.aload_n 0, 1, 0, 0, 0, 0), (.getfield 15, 3, 9, 1, 2, 0), (.iload 5, 2, 0, 0, 0, 0)]
theorem sk_54_31 : segB 9 false prog_11_method_3_code 31 sg_54_31 = true := by decide +kernel
def sg_54_39 : List RI := [(.iinc 5 1, 3, 0, 0, 0, 1)]
theorem sk_54_39 : segB 9 false prog_11_method_3_code 39 sg_54_39 = true := by decide +kernel
def sg_54_45 : List RI := [(.iconst (-1), 1, 0, 0, 0, -1)]
theorem sk_54_45 : segB 9 false prog_11_method_3_code 45 sg_54_45 = true := by decide +kernel
theorem ck_54_11 : decode prog_11_method_3_code 11 = .ok (.if_icmp .ge 34, 3) ∧ lnkB 9 false 11 (.if_icmp .ge 34, 3, 45, 0, 0, 0) = true := by decide +kernel
theorem ck_54_19 : decode prog_11_method_3_code 19 = .ok (.invokevirtual 37, 3) ∧ lnkB 9 false 19 (.invokevirtual 37, 3, 53, 0, 0, 0) = true := by decide +kernel
theorem ck_54_28 : decode prog_11_method_3_code 28 = .ok (.ifCond .le 11, 3) ∧ lnkB 9 false 28 (.ifCond .le 11, 3, 39, 0, 0, 0) = true := by decide +kernel
theorem ca_54_37 : decode prog_11_method_3_code 37 = .ok (.iaload, 1) ∧ lnkB 9 false 37 (.iaload, 1, 0, 0, 0, 0) = true := by decide +kernel
theorem ck_54_38 : decode prog_11_method_3_code 38 = .ok (.ireturn, 1) ∧ lnkB 9 false 38 (.ireturn, 1, 0, 0, 0, 0) = true := by decide +kernel
theorem ck_54_42 : decode prog_11_method_3_code 42 = .ok (.goto (-37), 3) ∧ lnkB 9 false 42 (.goto (-37), 3, 5, 0, 0, 0) = true := by decide +kernel
theorem ck_54_46 : decode prog_11_method_3_code 46 = .ok (.ireturn, 1) ∧ lnkB 9 false 46 (.ireturn, 1, 0, 0, 0, 0) = true := by decide +kernel
abbrev RU_54 (d : Nat) (cp : Nat × Nat) (Post : Option Value → Sto → Prop) : PP := Runs (Ex d) prog_11_method_3_code 9 false 6 (some .int) none cp Post
theorem en_54 {d : Nat} {As : List Value} {S : Sto} {mc ms : Nat} {Post : Option Value → Sto → Prop} (hc : cats As ≤ 6) (h : RU_54 d (mc, ms) Post 0 (lv_args 0 As) [] S 0 0) : Ex (d + 1) 54 As S mc ms Post := ⟨by decide, hc, h⟩
def sg_55_0 : List RI := [(.aload_n 0, 1, 0, 0, 0, 0), (.invokespecial 3, 3, 0, 4, 0, 0), (.aload_n 0, 1, 0, 0, 0, 0), (.new 9, 3, 1, 0, 0, 0), (.dup, 1, 0, 0, 0, 0)]
theorem sk_55_0 : segB 10 true prog_1_method_1_code 0 sg_55_0 = true := by decide +kernel
def sg_55_12 : List RI := [(.putfield 12, 3, 10, 0, 2, 0), (.aload_n 0, 1, 0, 0, 0, 0), (.new 16, 3, 3, 0, 0, 0), (.dup, 1, 0, 0, 0, 0)]
theorem sk_55_12 : segB 10 true prog_1_method_1_code 12 sg_55_12 = true := by decide +kernel
def sg_55_23 : List RI := [(.putfield 19, 3, 10, 1, 2, 0), (.aload_n 0, 1, 0, 0, 0, 0), (.new 23, 3, 6, 0, 0, 0), (.dup, 1, 0, 0, 0, 0)]
theorem sk_55_23 : segB 10 true prog_1_method_1_code 23 sg_55_23 = true := by decide +kernel
def sg_55_34 : List RI := [(.putfield 26, 3, 10, 2, 2, 0), (.aload_n 0, 1, 0, 0, 0, 0), (.new 30, 3, 7, 0, 0, 0), (.dup, 1, 0, 0, 0, 0)]
theorem sk_55_34 : segB 10 true prog_1_method_1_code 34 sg_55_34 = true := by decide +kernel
def sg_55_45 : List RI := [(.putfield 33, 3, 10, 3, 2, 0), (.aload_n 0, 1, 0, 0, 0, 0), (.new 37, 3, 9, 0, 0, 0), (.dup, 1, 0, 0, 0, 0)]
theorem sk_55_45 : segB 10 true prog_1_method_1_code 45 sg_55_45 = true := by decide +kernel
def sg_55_56 : List RI := [(.putfield 40, 3, 10, 4, 2, 0), (.aload_n 0, 1, 0, 0, 0, 0), (.new 44, 3, 4, 0, 0, 0), (.dup, 1, 0, 0, 0, 0), (.aload_n 0, 1, 0, 0, 0, 0), (.getfield 40, 3, 10, 4, 2, 0), (.aload_n 0, 1, 0, 0, 0, 0), (.getfield 26, 3, 10, 2, 2, 0)]
theorem sk_55_56 : segB 10 true prog_1_method_1_code 56 sg_55_56 = true := by decide +kernel
def sg_55_75 : List RI := [(.putfield 49, 3, 10, 5, 2, 0), (.aload_n 0, 1, 0, 0, 0, 0), (.new 53, 3, 0, 0, 0, 0), (.dup, 1, 0, 0, 0, 0)]
theorem sk_55_75 : segB 10 true prog_1_method_1_code 75 sg_55_75 = true := by decide +kernel
def sg_55_86 : List RI := [(.putfield 56, 3, 10, 6, 2, 0), (.aload_n 0, 1, 0, 0, 0, 0), (.new 60, 3, 5, 0, 0, 0), (.dup, 1, 0, 0, 0, 0), (.aload_n 0, 1, 0, 0, 0, 0), (.getfield 12, 3, 10, 0, 2, 0), (.aload_n 0, 1, 0, 0, 0, 0), (.getfield 19, 3, 10, 1, 2, 0), (.aload_n 0, 1, 0, 0, 0, 0), (.getfield 26, 3, 10, 2, 2, 0), (.aload_n 0, 1, 0, 0, 0, 0), (.getfield 40, 3, 10, 4, 2, 0), (.aload_n 0, 1, 0, 0, 0, 0), (.getfield 56, 3, 10, 6, 2, 0)]
theorem sk_55_86 : segB 10 true prog_1_method_1_code 86 sg_55_86 = true := by decide +kernel
def sg_55_117 : List RI := [(.putfield 65, 3, 10, 7, 2, 0), (.aload_n 0, 1, 0, 0, 0, 0), (.new 69, 3, 8, 0, 0, 0), (.dup, 1, 0, 0, 0, 0), (.aload_n 0, 1, 0, 0, 0, 0), (.getfield 26, 3, 10, 2, 2, 0), (.aload_n 0, 1, 0, 0, 0, 0), (.getfield 40, 3, 10, 4, 2, 0), (.aload_n 0, 1, 0, 0, 0, 0), (.getfield 65, 3, 10, 7, 2, 0), (.getfield 71, 3, 5, 0, 2, 0)]
theorem sk_55_117 : segB 10 true prog_1_method_1_code 117 sg_55_117 = true := by decide +kernel
def sg_55_143 : List RI := [(.putfield 78, 3, 10, 8, 2, 0), (.aload_n 0, 1, 0, 0, 0, 0), (.iconst (-1), 1, 0, 0, 0, -1), (.putfield 82, 3, 10, 9, 0, 0)]
theorem sk_55_143 : segB 10 true prog_1_method_1_code 143 sg_55_143 = true := by decide +kernel
theorem ck_55_9 : decode prog_1_method_1_code 9 = .ok (.invokespecial 11, 3) ∧ lnkB 10 true 9 (.invokespecial 11, 3, 6, 0, 0, 0) = true := by decide +kernel
theorem ck_55_20 : decode prog_1_method_1_code 20 = .ok (.invokespecial 18, 3) ∧ lnkB 10 true 20 (.invokespecial 18, 3, 13, 0, 0, 0) = true := by decide +kernel
theorem ck_55_31 : decode prog_1_method_1_code 31 = .ok (.invokespecial 25, 3) ∧ lnkB 10 true 31 (.invokespecial 25, 3, 38, 0, 0, 0) = true := by decide +kernel
theorem ck_55_42 : decode prog_1_method_1_code 42 = .ok (.invokespecial 32, 3) ∧ lnkB 10 true 42 (.invokespecial 32, 3, 43, 1, 0, 0) = true := by decide +kernel
theorem ck_55_53 : decode prog_1_method_1_code 53 = .ok (.invokespecial 39, 3) ∧ lnkB 10 true 53 (.invokespecial 39, 3, 51, 1, 0, 0) = true := by decide +kernel
theorem ck_55_72 : decode prog_1_method_1_code 72 = .ok (.invokespecial 46, 3) ∧ lnkB 10 true 72 (.invokespecial 46, 3, 16, 0, 0, 0) = true := by decide +kernel
theorem ck_55_83 : decode prog_1_method_1_code 83 = .ok (.invokespecial 55, 3) ∧ lnkB 10 true 83 (.invokespecial 55, 3, 0, 1, 0, 0) = true := by decide +kernel
theorem ck_55_114 : decode prog_1_method_1_code 114 = .ok (.invokespecial 62, 3) ∧ lnkB 10 true 114 (.invokespecial 62, 3, 22, 0, 0, 0) = true := by decide +kernel
theorem ck_55_140 : decode prog_1_method_1_code 140 = .ok (.invokespecial 75, 3) ∧ lnkB 10 true 140 (.invokespecial 75, 3, 45, 0, 0, 0) = true := by decide +kernel
theorem ck_55_151 : decode prog_1_method_1_code 151 = .ok (.return_, 1) ∧ lnkB 10 true 151 (.return_, 1, 0, 0, 0, 0) = true := by decide +kernel
abbrev RU_55 (d : Nat) (cp : Nat × Nat) (Post : Option Value → Sto → Prop) : PP := Runs (Ex d) prog_1_method_1_code 10 true 1 none none cp Post
theorem en_55 {d : Nat} {As : List Value} {S : Sto} {mc ms : Nat} {Post : Option Value → Sto → Prop} (hc : cats As ≤ 1) (h : RU_55 d (mc, ms) Post 0 (lv_args 0 As) [] S 0 0) : Ex (d + 1) 55 As S mc ms Post := ⟨by decide, hc, h⟩
def sg_56_0 : List RI := [(.iload_n 1, 1, 0, 0, 0, 0), (.iconst 0, 1, 0, 0, 0, 0), (.iconst 4, 1, 0, 0, 0, 4)]
theorem sk_56_0 : segB 10 false prog_1_method_2_code 0 sg_56_0 = true := by decide +kernel
def sg_56_9 : List RI := [(.iload_n 2, 1, 0, 0, 0, 0), (.iconst 1, 1, 0, 0, 0, 1), (.bipush 9, 2, 0, 0, 0, 9)]
theorem sk_56_9 : segB 10 false prog_1_method_2_code 9 sg_56_9 = true := by decide +kernel
def sg_56_19 : List RI := [(.iload_n 3, 1, 0, 0, 0, 0), (.iconst 1, 1, 0, 0, 0, 1), (.bipush 8, 2, 0, 0, 0, 8)]
theorem sk_56_19 : segB 10 false prog_1_method_2_code 19 sg_56_19 = true := by decide +kernel
def sg_56_29 : List RI := [(.iload 4, 2, 0, 0, 0, 0), (.iconst 1, 1, 0, 0, 0, 1), (.bipush 8, 2, 0, 0, 0, 8)]
theorem sk_56_29 : segB 10 false prog_1_method_2_code 29 sg_56_29 = true := by decide +kernel
def sg_56_40 : List RI := [(.iload 5, 2, 0, 0, 0, 0), (.iconst 0, 1, 0, 0, 0, 0), (.bipush 9, 2, 0, 0, 0, 9)]
theorem sk_56_40 : segB 10 false prog_1_method_2_code 40 sg_56_40 = true := by decide +kernel
def sg_56_51 : List RI := [(.iload 6, 2, 0, 0, 0, 0), (.iconst 1, 1, 0, 0, 0, 1), (.bipush 99, 2, 0, 0, 0, 99)]
theorem sk_56_51 : segB 10 false prog_1_method_2_code 51 sg_56_51 = true := by decide +kernel
def sg_56_62 : List RI := [(.iconst 0, 1, 0, 0, 0, 0)]
theorem sk_56_62 : segB 10 false prog_1_method_2_code 62 sg_56_62 = true := by decide +kernel
def sg_56_64 : List RI := [(.aload_n 0, 1, 0, 0, 0, 0), (.getfield 19, 3, 10, 1, 2, 0), (.getfield 90, 3, 3, 0, 2, 0), (.iload_n 1, 1, 0, 0, 0, 0)]
theorem sk_56_64 : segB 10 false prog_1_method_2_code 64 sg_56_64 = true := by decide +kernel
def sg_56_73 : List RI := [(.astore 7, 2, 0, 0, 0, 0), (.aload 7, 2, 0, 0, 0, 0), (.iload_n 2, 1, 0, 0, 0, 0), (.putfield 94, 3, 2, 0, 0, 0), (.aload 7, 2, 0, 0, 0, 0), (.iload_n 3, 1, 0, 0, 0, 0), (.putfield 99, 3, 2, 1, 0, 0), (.aload 7, 2, 0, 0, 0, 0), (.iload 4, 2, 0, 0, 0, 0), (.putfield 102, 3, 2, 2, 0, 0), (.aload 7, 2, 0, 0, 0, 0), (.iload 5, 2, 0, 0, 0, 0), (.putfield 105, 3, 2, 3, 0, 0), (.aload 7, 2, 0, 0, 0, 0), (.iload 6, 2, 0, 0, 0, 0), (.putfield 108, 3, 2, 4, 0, 0), (.aload 7, 2, 0, 0, 0, 0)]
theorem sk_56_73 : segB 10 false prog_1_method_2_code 73 sg_56_73 = true := by decide +kernel
def sg_56_113 : List RI := [(.iconst 1, 1, 0, 0, 0, 1)]
theorem sk_56_113 : segB 10 false prog_1_method_2_code 113 sg_56_113 = true := by decide +kernel
theorem ck_56_3 : decode prog_1_method_2_code 3 = .ok (.invokestatic 86, 3) ∧ lnkB 10 false 3 (.invokestatic 86, 3, 57, 0, 0, 0) = true := by decide +kernel
theorem ck_56_6 : decode prog_1_method_2_code 6 = .ok (.ifCond .eq 56, 3) ∧ lnkB 10 false 6 (.ifCond .eq 56, 3, 62, 0, 0, 0) = true := by decide +kernel
theorem ck_56_13 : decode prog_1_method_2_code 13 = .ok (.invokestatic 86, 3) ∧ lnkB 10 false 13 (.invokestatic 86, 3, 57, 0, 0, 0) = true := by decide +kernel
theorem ck_56_16 : decode prog_1_method_2_code 16 = .ok (.ifCond .eq 46, 3) ∧ lnkB 10 false 16 (.ifCond .eq 46, 3, 62, 0, 0, 0) = true := by decide +kernel
theorem ck_56_23 : decode prog_1_method_2_code 23 = .ok (.invokestatic 86, 3) ∧ lnkB 10 false 23 (.invokestatic 86, 3, 57, 0, 0, 0) = true := by decide +kernel
theorem ck_56_26 : decode prog_1_method_2_code 26 = .ok (.ifCond .eq 36, 3) ∧ lnkB 10 false 26 (.ifCond .eq 36, 3, 62, 0, 0, 0) = true := by decide +kernel
theorem ck_56_34 : decode prog_1_method_2_code 34 = .ok (.invokestatic 86, 3) ∧ lnkB 10 false 34 (.invokestatic 86, 3, 57, 0, 0, 0) = true := by decide +kernel
theorem ck_56_37 : decode prog_1_method_2_code 37 = .ok (.ifCond .eq 25, 3) ∧ lnkB 10 false 37 (.ifCond .eq 25, 3, 62, 0, 0, 0) = true := by decide +kernel
theorem ck_56_45 : decode prog_1_method_2_code 45 = .ok (.invokestatic 86, 3) ∧ lnkB 10 false 45 (.invokestatic 86, 3, 57, 0, 0, 0) = true := by decide +kernel
theorem ck_56_48 : decode prog_1_method_2_code 48 = .ok (.ifCond .eq 14, 3) ∧ lnkB 10 false 48 (.ifCond .eq 14, 3, 62, 0, 0, 0) = true := by decide +kernel
theorem ck_56_56 : decode prog_1_method_2_code 56 = .ok (.invokestatic 86, 3) ∧ lnkB 10 false 56 (.invokestatic 86, 3, 57, 0, 0, 0) = true := by decide +kernel
theorem ck_56_59 : decode prog_1_method_2_code 59 = .ok (.ifCond .ne 5, 3) ∧ lnkB 10 false 59 (.ifCond .ne 5, 3, 64, 0, 0, 0) = true := by decide +kernel
theorem ck_56_63 : decode prog_1_method_2_code 63 = .ok (.ireturn, 1) ∧ lnkB 10 false 63 (.ireturn, 1, 0, 0, 0, 0) = true := by decide +kernel
theorem ca_56_72 : decode prog_1_method_2_code 72 = .ok (.aaload, 1) ∧ lnkB 10 false 72 (.aaload, 1, 0, 0, 0, 0) = true := by decide +kernel
theorem ck_56_110 : decode prog_1_method_2_code 110 = .ok (.invokevirtual 111, 3) ∧ lnkB 10 false 110 (.invokevirtual 111, 3, 9, 0, 0, 0) = true := by decide +kernel
theorem ck_56_114 : decode prog_1_method_2_code 114 = .ok (.ireturn, 1) ∧ lnkB 10 false 114 (.ireturn, 1, 0, 0, 0, 0) = true := by decide +kernel
abbrev RU_56 (d : Nat) (cp : Nat × Nat) (Post : Option Value → Sto → Prop) : PP := Runs (Ex d) prog_1_method_2_code 10 false 8 (some .boolean) none cp Post
theorem en_56 {d : Nat} {As : List Value} {S : Sto} {mc ms : Nat} {Post : Option Value → Sto → Prop} (hc : cats As ≤ 8) (h : RU_56 d (mc, ms) Post 0 (lv_args 0 As) [] S 0 0) : Ex (d + 1) 56 As S mc ms Post := ⟨by decide, hc, h⟩
