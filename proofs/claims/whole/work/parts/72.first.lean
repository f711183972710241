/-! ===== the world behind both constructors ===== -/
def r00 : RHO := fun _ _ => none
def w00 : WW := fun _ _ => 0
theorem z00 (n : Nat) : ZR n w00 r00 := ⟨fun _ _ => rfl, fun _ _ => rfl⟩
def NF (f : RHO) : Prop := ∀ k i, 62 ≤ i ∨ 105 ≤ k → f k i = none
theorem NF.up {f : RHO} (h : NF f) (k i : Nat) (v : Option Nat) (hk : k < 105) (hi : i < 62) : NF (up2 f k i v) := by
  intro a b hab
  by_cases e : a = k
  · subst e
    rw [up2_o _ _ _ _ (show b ≠ i by omega)]
    exact h a b hab
  · rw [up2_n _ _ _ _ e]
    exact h a b hab
theorem nf_all : NF (r_79 (r_55 r00)) := by
  unfold r_79 r_55 r_45 r_22 r_0 r_16 r_51 r_43 r_38 r_13 r_6
  repeat (refine NF.up ?_ _ _ _ (by decide) (by decide))
  exact fun _ _ _ => rfl
theorem rho_in : ∀ k, k < 105 → ∀ i, i < 62 → r_79 (r_55 r00) k i = rho0 k i := by decide +kernel
theorem rho_l1 : ∀ k, k < 105 → (rhoL.getD k []).length ≤ 62 := by decide +kernel
theorem gd_none {l : List (Option Nat)} {i : Nat} (h : l.length ≤ i) : l.getD i none = none := by
  rw [List.getD_eq_getElem?_getD, List.getElem?_eq_none h]
  rfl
theorem rho_l2 {k : Nat} (h : 105 ≤ k) : rhoL.getD k [] = [] := by
  have e : rhoL.length = 105 := by decide
  rw [List.getD_eq_getElem?_getD, List.getElem?_eq_none (by omega)]
  rfl
theorem rho_all : r_79 (r_55 r00) = rho0 := by
  funext k i
  by_cases hk : k < 105
  · by_cases hi : i < 62
    · exact rho_in k hk i hi
    · rw [nf_all k i (by omega)]
      have := rho_l1 k hk
      exact (gd_none (by omega)).symm
  · rw [nf_all k i (by omega)]
    unfold rho0
    rw [rho_l2 (by omega)]
    rfl
def w0 : WW := w_79 (w_55 w00)
theorem f4 (v : Nat) : va_up (va_up (va_up (va_up (fun _ => 0) 0 v) 1 v) 2 v) 3 v = fun i => if 0 ≤ i ∧ i < 4 then v else 0 := by
  funext i
  unfold va_up
  by_cases h : i < 4
  · rw [if_pos (show 0 ≤ i ∧ i < 4 from ⟨Nat.zero_le _, h⟩)]
    rcases (show i = 0 ∨ i = 1 ∨ i = 2 ∨ i = 3 by omega) with rfl | rfl | rfl | rfl <;> rfl
  · rw [if_neg (show ¬ i = 3 by omega), if_neg (show ¬ i = 2 by omega), if_neg (show ¬ i = 1 by omega), if_neg (show ¬ i = 0 by omega), if_neg (show ¬ (0 ≤ i ∧ i < 4) from fun q => h q.2)]
theorem w0_so : SO w0 := by unfold SO; decide +kernel
theorem w0_ko : KO w0 := by unfold KO; decide +kernel
theorem w0_ho : HO w0 := by unfold HO; decide +kernel
theorem w0_sp : SP w0 := by unfold SP; decide +kernel
theorem w0_tn : TN1 w0 := by unfold TN1; decide +kernel
theorem w0_ao : AO w0 := by unfold AO; decide +kernel
theorem w0_zo : ZO w0 := by unfold ZO; decide +kernel
theorem w0_po : PO w0 := by unfold PO; decide +kernel
theorem w0_tpc : TPc w0 := by unfold TPc; decide +kernel
theorem w0_tpr : TPR w0 w0 := by unfold TPR; decide +kernel
theorem w0_re3 : RE3 w0 := by unfold RE3; decide +kernel
theorem w0_rh : RH w0 w0 := by unfold RH; decide +kernel
theorem w0_rk : RK (w0 25) (w0 81) (w0 1 4) := by unfold RK; decide +kernel
theorem w0_rf : RF (w0 51) (w0 94) (w0 95) := by unfold RF; decide +kernel
theorem w0_ar : AR w0 := by unfold AR; decide +kernel
theorem w0_ck : CK w0 := by unfold CK; decide +kernel
theorem w0_fv : FV0 w0 := by unfold FV0; decide +kernel
theorem w0_rc : RC w0 w0 := by
  refine ⟨⟨rfl, rfl, rfl, rfl, rfl⟩, rfl, ?_⟩
  intro c hc
  exact absurd (show c < 0 from hc) (Nat.not_lt_zero c)
theorem w0_rq : RQ w0 w0 := ⟨rfl, rfl, rfl⟩
theorem w0_c2 : w0 2 = fun i => if 0 ≤ i ∧ i < 4 then 63 else 0 := rfl
theorem w0_c3 : w0 3 = fun i => if 0 ≤ i ∧ i < 4 then 100 else 0 := rfl
theorem w0_c4 : w0 4 = fun i => if 0 ≤ i ∧ i < 4 then 10 else 0 := rfl
theorem w0_c5 : w0 5 = fun i => if 0 ≤ i ∧ i < 4 then 100 else 0 := rfl
theorem w0_c82 : w0 82 = va_up (va_up (va_up (va_up (fun _ => 0) 0 63) 1 63) 2 63) 3 63 := rfl
theorem w0_c83 : w0 83 = va_up (va_up (va_up (va_up (fun _ => 0) 0 100) 1 100) 2 100) 3 100 := rfl
theorem w0_c84 : w0 84 = va_up (va_up (va_up (va_up (fun _ => 0) 0 10) 1 10) 2 10) 3 10 := rfl
theorem w0_c85 : w0 85 = va_up (va_up (va_up (va_up (fun _ => 0) 0 100) 1 100) 2 100) 3 100 := rfl
theorem w0_c18 : w0 18 = fun i => if 0 ≤ i ∧ i < 6 then 1 else 0 := rfl
theorem w0_c70 : w0 70 = fun i => if 0 ≤ i ∧ i < 6 then 1 else 0 := rfl
theorem w0_c22 : w0 22 = fun i => if 0 ≤ i ∧ i < 24 then 5 else 0 := rfl
theorem w0_c74 : w0 74 = fun i => if 0 ≤ i ∧ i < 24 then 5 else 0 := rfl
theorem w0_c27 : w0 27 = fun i => if 0 ≤ i ∧ i < 768 then N1 else 0 := rfl
theorem w0_c78 : w0 78 = fun i => if 0 ≤ i ∧ i < 768 then N1 else 0 := rfl
theorem w0_eqa : ∀ p, p ∈ EQA → w0 p.1 = w0 p.2 := by
  refine eqa_18 rfl (w0_c70.trans w0_c18.symm) rfl rfl rfl (w0_c74.trans w0_c22.symm) rfl rfl rfl (w0_c78.trans w0_c27.symm) rfl rfl rfl rfl rfl ?_ ?_ ?_
  · exact w0_c82.trans ((f4 63).trans w0_c2.symm)
  · exact w0_c83.trans ((f4 100).trans w0_c3.symm)
  · exact w0_c84.trans ((f4 10).trans w0_c4.symm)
theorem w0_sim : Sim w0 := ⟨w0_so, w0_ko, w0_ho, w0_sp, w0_tn, w0_ao, w0_zo, w0_po, w0_tpc, w0_tpr, w0_eqa, by decide +kernel, w0_re3, ⟨by decide +kernel, w0_c85.trans ((f4 100).trans w0_c5.symm)⟩, w0_rh, w0_rk, w0_rc, w0_rq, w0_rf, w0_ar, w0_ck, w0_fv⟩
