section ASKY
variable {G : GT} {d k n s l : Nat} {σ : Sg} {Q : Option AV → Sg → Prop}
set_option maxHeartbeats 16000000 in
theorem sp_rememberedValue_ask {r : Nat} {S : SS} (hs : (s + 58 ≤ 121 ∨ 156 ≤ s) ∧ s + 58 ≤ 652) (hA : AC G s l (d - 4)) (hp : AskPre s S σ) (hl : l < 6) (hz : S.1 815 + ((18 ^ l : Nat) : Int) ≤ 2147483647) (hRq : RRec σ r (S.2.2 l)) (hr : 652 ≤ r) (hdp : 6 ≤ d)
    (hQ : ∀ σ', AskPre s (askB (askF l) l S).1 σ' → FrA (l + 1) s σ σ' → OBJ s (S.1 815) σ S.2.1 σ' (askB (askF l) l S).1.2.1 → Q (some (Vi (askB (askF l) l S).2)) σ') : WA G d 0 0 mX0_rememberedValue 0 [Va 121, Vi (l : Int), Va r, Vu, Vu, Vu] [] σ Q := by
  have hPA := askF_g l (by omega)
  have hW0 := hp.2.2.2.2.1
  have h815 := hW0.2.2.2.2.1
  have hWn := Wn_e l
  have hg1 : Grow S (fitA (askF l) ((S.2.1.filter (isOf l)).map mSer) S).1 (16 * Wn l) := by
    have hlen : ((S.2.1.filter (isOf l)).map mSer).length ≤ 16 := by
      rw [List.length_map]
      have a := List.length_filter_le (isOf l) S.2.1
      have b := hW0.2.2.2.2.2.1
      have c := hW0.1.2
      omega
    have hm : ((S.2.1.filter (isOf l)).map mSer).length * Wn l ≤ 16 * Wn l := Nat.mul_le_mul_right _ hlen
    exact (fitA_g hPA hW0 ((S.2.1.filter (isOf l)).map mSer) S 0 ids_of (Grow.rf hW0)).le (by omega)
  have hmem := fitA_mem (A := askF l) ((S.2.1.filter (isOf l)).map mSer) S
  have h2 := fun (Q' : Option AV → Sg → Prop) hQ' => sp_fittingMemory_ask (G := G) (Q := Q') (d := d - 1) hs (by exact hA) hp hl hz (by omega) hQ'
  unfold askB at hQ
  generalize hF : fitA (askF l) ((S.2.1.filter (isOf l)).map mSer) S = F at hg1 hmem h2 hQ
  obtain ⟨S1, rr⟩ := F
  have hg1 : Grow S S1 (16 * Wn l) := hg1
  have hW1 := hg1.2.2.2.2.1
  have hg13 := hg1.2.2.1
  have hg14 := hg1.2.2.2.1
  have hk121 := hp.1.1
  refine ar_aload_n 1 rfl d_X0_rememberedValue_0 rfl ?_
  refine ar_iload_n 2 rfl d_X0_rememberedValue_1 rfl ?_
  refine ar_callV0 (M' := mX0_fittingMemory) (As := [_]) (ls' := [Va _, Vi _, Vu, Vu, Vu, Vu]) 5 rfl d_X0_rememberedValue_2 ml_X0_87 mt_X0_fittingMemory (by assumption) rfl (Nat.le_of_ble_eq_true rfl) rfl (Nat.le_of_ble_eq_true rfl) (by omega) ?_
  refine h2 _ (fun σ1 hp1 hf1 ho1 => ?_)
  have hp1 : AskPre s S1 σ1 := hp1
  have ho1 : OBJ s (S.1 815) σ S.2.1 σ1 S1.2.1 := ho1
  obtain ⟨hS1, hSf1, hSr1, hSm1⟩ := hp1.2.2.2.1
  have hk121 := hp1.1.1
  have hr121 := hp1.2.1
  have hks := hS1.1
  cases rr with
  | some p =>
    obtain ⟨M, hM⟩ := hmem p rfl
    have hM : S1.2.1[p]? = some M := hM
    simp only [hM] at hQ
    have hpp := (List.getElem?_eq_some_iff.mp hM).1
    have hp17 : p < 17 := by
      have := hSm1.1
      omega
    obtain ⟨m, hm, hshm, hlo, hhi⟩ := hSm1.at hS1 hp17
    have hkm : sk σ1 (s + 4) = (12, 17) := hS1.2.2.2.2.1
    have hrm : hR σ1 s 4 = some (s + 4) := hS1.2.2.2.2.2.2.2.2.2.2.1
    refine ar_top (y := (p : Int)) rfl ?_
    refine ar_ist_3 6 rfl d_X0_rememberedValue_5 rfl (by intro _ h; cases h) ?_
    refine ar_iload_n 7 rfl d_X0_rememberedValue_6 rfl ?_
    refine ar_if_lt 65 10 rfl rfl d_X0_rememberedValue_7 (by omega) (fun h => by omega) (fun g7 => ?_)
    refine ar_aload_n 11 rfl d_X0_rememberedValue_10 rfl ?_
    refine ar_getA 14 rfl d_X0_rememberedValue_11 fl_X0_57 rfl (by assumption) (by assumption) ?_
    refine ar_getA 17 rfl d_X0_rememberedValue_14 fl_X0_91 rfl (by assumption) (by assumption) ?_
    refine ar_iload_n 18 rfl d_X0_rememberedValue_17 rfl ?_
    refine ar_aalA 19 rfl d_X0_rememberedValue_18 (by assumption) (by omega) (by omega) hm ?_
    refine ar_ast_4 21 rfl d_X0_rememberedValue_19 rfl (by intro _ h; cases h) ?_
    refine ar_aload_n 22 rfl d_X0_rememberedValue_21 rfl ?_
    refine ar_getA 25 rfl d_X0_rememberedValue_22 fl_X0_57 rfl (by assumption) (by assumption) ?_
    refine ar_iload_n 26 rfl d_X0_rememberedValue_25 rfl ?_
    refine ar_callV0 (M' := mX4_use) (As := [_]) (ls' := [Va _, Vi _, Vu, Vu]) 29 rfl d_X0_rememberedValue_26 ml_X0_94 mt_X4_use (by assumption) rfl (Nat.le_of_ble_eq_true rfl) rfl (Nat.le_of_ble_eq_true rfl) (by omega) ?_
    refine sp_X4_use hS1 hSm1 hpp (fun σ2 hf2 hL2 hρ2 hm2 => ?_)
    have hS2 : ShS σ2 s := hS1.frm hf2
    have hst2 : RSt σ2 s (S1.1, useL S1.2.1 p, S1.2.2) := hp1.2.2.2.1.mem hf2 hL2 hs.2
    have hSf2 : RSf σ2 s S1.1 := hst2.2.1
    have hk121 : (sk σ2 121).1 = 1 := by rw [hf2.1]; exact hp1.1.1
    have hr121 : hR σ2 121 0 = some s := by rw [hf2.2.2.1 121 (by omega)]; exact hp1.2.1
    have hks := hS2.1
    have hk6 : sk σ2 (s + 6) = (10, 6) := hS2.2.2.2.2.2.2.1
    have hr6 : hR σ2 s 8 = some (s + 6) := hS2.2.2.2.2.2.2.2.2.2.2.2.2.1
    have hgv := hSf2.2.2.2.2.2.1 l hl
    have hst10 := hSf2.2.2.2.2.2.2.2.1
    have hu : (useL S1.2.1 p)[0]? = some (mUse M) := by
      unfold useL
      rw [hM]
      rfl
    have hm0 : hR σ2 (s + 4) 0 = some m := by
      rw [hρ2 0 (by omega), τU, if_pos rfl]
      exact hm
    have hRM2 := hL2.2.2.2.2 0 _ m hu hm0
    have hkM : (sk σ2 m).1 = 2 := by rw [hf2.1]; exact hshm.1
    have hl6 : l < 6 := hl
    have hgu : WFS (useS l p M S1) := (useS_g hl hW1 hM).2.2.2.2.1
    refine ar_aload_n 30 rfl d_X0_rememberedValue_29 rfl ?_
    refine ar_getA 33 rfl d_X0_rememberedValue_30 fl_X0_57 rfl (by assumption) (by assumption) ?_
    refine ar_getA 36 rfl d_X0_rememberedValue_33 fl_X0_98 rfl (by assumption) (by assumption) ?_
    refine ar_iload_n 37 rfl d_X0_rememberedValue_36 rfl ?_
    refine ar_dup2 38 rfl d_X0_rememberedValue_37 (fun _ => ⟨rfl, rfl⟩) ?_
    refine ar_ilv (y := (S1.1 (806 + l))) 39 rfl d_X0_rememberedValue_38 (by assumption) (by omega) hgv ?_
    refine ar_iconst 40 rfl d_X0_rememberedValue_39 ?_
    refine ar_iadd 41 rfl d_X0_rememberedValue_40 ?_
    refine ar_iasN l 42 rfl d_X0_rememberedValue_41 (by assumption) (by omega) (by omega) ?_
    refine ar_aload_n 43 rfl d_X0_rememberedValue_42 rfl ?_
    refine ar_getA 46 rfl d_X0_rememberedValue_43 fl_X0_57 rfl (by assumption) (by assumption) ?_
    refine ar_dup 47 rfl d_X0_rememberedValue_46 (fun _ => rfl) ?_
    refine ar_giv (y := (S1.1 813)) 50 rfl d_X0_rememberedValue_47 fl_X0_101 rfl (by assumption) (by rw [hI_w, if_neg (by omega)]; exact hst10) ?_
    refine ar_aload 52 rfl d_X0_rememberedValue_50 rfl ?_
    refine ar_giv (y := (mSteps M)) 55 rfl d_X0_rememberedValue_52 fl_X0_104 rfl (by assumption) (by rw [hI_w, if_neg (by omega)]; exact hRM2.2.2.1) ?_
    refine ar_iadd 56 rfl d_X0_rememberedValue_55 ?_
    refine ar_putI 59 rfl d_X0_rememberedValue_56 fl_X0_101 rfl rfl (by assumption) ?_
    refine ar_aload 61 rfl d_X0_rememberedValue_59 rfl ?_
    refine ar_giv (y := (mRes M)) 64 rfl d_X0_rememberedValue_61 fl_X0_107 rfl (by assumption) (by rw [hI_w, if_neg (by omega), hI_w, if_neg (by omega)]; exact hRM2.2.1) ?_
    refine WA.ret (some (Vi _)) ⟨d_X0_rememberedValue_64, rfl, Or.inl rfl⟩ ?_
    have hfi : FrI s (s + 7) σ2 (wI (wI σ2 (s + 6) l (S1.1 (806 + l) + 1)) s 10 (S1.1 813 + mSteps M)) := (FrI.w (by omega) (by omega)).tr (FrI.w (by omega) (by omega))
    have hst4 : RSt (wI (wI σ2 (s + 6) l (S1.1 (806 + l) + 1)) s 10 (S1.1 813 + mSteps M)) s (useS l p M S1) := by
      refine hst2.int hfi (by rw [hI_w, if_neg (by omega), hI_w, if_neg (by omega)]) ?_ rfl hs.2
      exact (hSf2.w (by omega)).w (by omega)
    have hfs : FrS s σ1 (wI (wI σ2 (s + 6) l (S1.1 (806 + l) + 1)) s 10 (S1.1 813 + mSteps M)) := (FrS.m hf2).tr (FrS.i hfi (by omega) (by omega))
    refine hQ _ (hp1.to hs hfs hst4 hgu) (hf1.tr (FrA.s (by omega) hfs)) (ho1.tr ((obj_use (z := S1.1 815) hSm1 hpp hρ2 hm2 (hf2.2.2.2.2 6 (by omega))).tr (OBJ.st2 rfl (fun b h1 h2 => hfi.2 b (by omega)) (by rw [hI_w, if_neg (by omega), hI_w, if_neg (by omega)])) (Int.le_refl (S1.1 815)) hSm1 hp1.pos) (by omega) hp.2.2.2.1.2.2.2 hp.pos)
  | none =>
    have hRq1 := hf1.rec hs.2 hr hRq
    have hg2 := askR_g (S0 := S) (l := l) hl hPA hW0 hg1
    have hrk := fun (Q' : Option AV → Sg → Prop) hQ' => sp_reckon_ask (G := G) (Q := Q') (d := d - 1) (S1 := S1) (c := S.2.2 l) hs (by exact hA) hp1 hl (by omega) (hW0.2.2.2.2.2.2.2.2 l hl) hRq1 hr (by omega) hQ'
    unfold askR at hQ hg2
    refine ar_top (y := (-1 : Int)) rfl ?_
    refine ar_ist_3 6 rfl d_X0_rememberedValue_5 rfl (by intro _ h; cases h) ?_
    refine ar_iload_n 7 rfl d_X0_rememberedValue_6 rfl ?_
    refine ar_if_lt 65 10 rfl rfl d_X0_rememberedValue_7 (by omega) (fun g7 => ?_) (fun h => by omega)
    refine ar_aload_n 66 rfl d_X0_rememberedValue_65 rfl ?_
    refine ar_iload_n 67 rfl d_X0_rememberedValue_66 rfl ?_
    refine ar_aload_n 68 rfl d_X0_rememberedValue_67 rfl ?_
    refine ar_callV0 (M' := mX0_reckon) (As := [_, _]) (ls' := [Va _, Vi _, Vr _, Vu, Vu, Vu, Vu, Vu, Vu, Vu, Vu]) 71 rfl d_X0_rememberedValue_68 ml_X0_84 mt_X0_reckon (by assumption) rfl (Nat.le_of_ble_eq_true rfl) rfl (Nat.le_of_ble_eq_true rfl) (by omega) ?_
    generalize hR9 : runG (lkG (valA (askF l)) (fun _ t => t)) (S.2.2 l) (S.2.2 l).length 0 [] [] 0 S1 = R at hQ hg2 hrk
    obtain ⟨S2, d2, n2, v⟩ := R
    have hd2 : WFl l d2 := hg2.1
    have hg2b : Grow S1 S2 (Wn l) := hg2.2.1
    have hv2 : 0 ≤ v ∧ v ≤ 100 := hg2.2.2
    clear hg2
    have hQ : ∀ σ', AskPre s (bakeS l S2 d2 n2 v) σ' → FrA (l + 1) s σ σ' → OBJ s (S.1 815) σ S.2.1 σ' (bakeS l S2 d2 n2 v).2.1 → Q (some (Vi v)) σ' := hQ
    refine hrk _ (fun σ2 hp2 hf2 ho2 hRM2 => ?_)
    have hp2 : AskPre s S2 σ2 := hp2
    have ho2 : OBJ s (S1.1 815) σ1 S1.2.1 σ2 S2.2.1 := ho2
    have hRM2 : RM σ2 (138 + 3 * l) (l, 100, n2, 0, 0, d2) := hRM2
    have hW2 := hg2b.2.2.2.2.1
    have hg23 := hg2b.2.2.1
    have hg24 := hg2b.2.2.2.1
    have hbk := (bakeS_g (n := n2) hl hW2 hd2 hv2).2.2.2.2.1
    have ho12 := ho1.tr ho2 (by omega) hp.2.2.2.1.2.2.2 hp.pos
    have hf12 := (hf1).tr hf2
    obtain ⟨hS2, hSf2, hSr2, hSm2⟩ := hp2.2.2.2.1
    have hk121 := hp2.1.1
    have hr121 := hp2.2.1
    have hks := hS2.1
    have hk3 : sk σ2 123 = (12, 6) := hp2.1.2.2.1
    have hr3 : hR σ2 121 4 = some 123 := hp2.1.2.2.2.2.2.2.2.2.1
    have hrd := (hp2.1.2.2.2.2.2.2.2.2.2.2.2 l hl).1
    have hsd := (hp2.1.2.2.2.2.2.2.2.2.2.2.2 l hl).2.2.2
    have hkd := hsd.1
    have hk5 : sk σ2 (s + 5) = (10, 6) := hS2.2.2.2.2.2.1
    have hr5 : hR σ2 s 7 = some (s + 5) := hS2.2.2.2.2.2.2.2.2.2.2.2.1
    have hk2 : sk σ2 (s + 2) = (10, 2) := hS2.2.2.1
    have hr2 : hR σ2 s 2 = some (s + 2) := hS2.2.2.2.2.2.2.2.2.1
    have hbl := hSf2.2.2.2.2.1 l hl
    have hs9 := hSf2.2.2.2.2.2.2.1
    have hs1 := hSf2.2.2.2.1
    have hs0 := hSf2.2.2.1
    have hs6 := hSf2.2.2.2.2.2.2.2.2
    have hl6 : l < 6 := hl
    have hk1 : S2.1 1 = 0 ∨ S2.1 1 = 1 := hW2.2.1
    have hk0 : 1 ≤ S2.1 0 ∧ S2.1 0 ≤ 16 := hW2.1
    refine ar_top (y := v) rfl ?_
    refine ar_ist_4 73 rfl d_X0_rememberedValue_71 rfl (by intro _ h; cases h) ?_
    refine ar_aload_n 74 rfl d_X0_rememberedValue_73 rfl ?_
    refine ar_getA 77 rfl d_X0_rememberedValue_74 fl_X0_17 rfl (by assumption) (by assumption) ?_
    refine ar_iload_n 78 rfl d_X0_rememberedValue_77 rfl ?_
    refine ar_aalA 79 rfl d_X0_rememberedValue_78 (by assumption) (by omega) (by omega) hrd ?_
    refine ar_ast_5 81 rfl d_X0_rememberedValue_79 rfl (by intro _ h; cases h) ?_
    refine ar_aload 83 rfl d_X0_rememberedValue_81 rfl ?_
    refine ar_iload 85 rfl d_X0_rememberedValue_83 rfl ?_
    refine ar_putI 88 rfl d_X0_rememberedValue_85 fl_X0_107 rfl rfl (by assumption) ?_
    refine ar_aload_n 89 rfl d_X0_rememberedValue_88 rfl ?_
    refine ar_getA 92 rfl d_X0_rememberedValue_89 fl_X0_57 rfl (by assumption) (by assumption) ?_
    refine ar_getA 95 rfl d_X0_rememberedValue_92 fl_X0_110 rfl (by assumption) (by assumption) ?_
    refine ar_iload_n 96 rfl d_X0_rememberedValue_95 rfl ?_
    refine ar_dup2 97 rfl d_X0_rememberedValue_96 (fun _ => ⟨rfl, rfl⟩) ?_
    refine ar_ilv (y := (S2.1 (800 + l))) 98 rfl d_X0_rememberedValue_97 (by assumption) (by omega) (by rw [hI_w, if_neg (by omega)]; exact hbl) ?_
    refine ar_iconst 99 rfl d_X0_rememberedValue_98 ?_
    refine ar_iadd 100 rfl d_X0_rememberedValue_99 ?_
    refine ar_iasN l 101 rfl d_X0_rememberedValue_100 (by assumption) (by omega) (by omega) ?_
    refine ar_aload_n 102 rfl d_X0_rememberedValue_101 rfl ?_
    refine ar_getA 105 rfl d_X0_rememberedValue_102 fl_X0_57 rfl (by assumption) (by assumption) ?_
    refine ar_dup 106 rfl d_X0_rememberedValue_105 (fun _ => rfl) ?_
    refine ar_giv (y := (S2.1 812)) 109 rfl d_X0_rememberedValue_106 fl_X0_113 rfl (by assumption) (by rw [hI_w, if_neg (by omega), hI_w, if_neg (by omega)]; exact hs9) ?_
    refine ar_aload 111 rfl d_X0_rememberedValue_109 rfl ?_
    refine ar_giv (y := n2) 114 rfl d_X0_rememberedValue_111 fl_X0_104 rfl (by assumption) (by rw [hI_w, if_neg (by omega), hI_w, if_neg (by omega)]; exact hRM2.2.2.1) ?_
    refine ar_iadd 115 rfl d_X0_rememberedValue_114 ?_
    refine ar_putI 118 rfl d_X0_rememberedValue_115 fl_X0_113 rfl rfl (by assumption) ?_
    generalize hσ5 : wI (wI (wI σ2 (138 + 3 * l) 1 v) (s + 5) l (S2.1 (800 + l) + 1)) s 9 (S2.1 812 + n2) = σ5
    have e5 : σ5.2 = σ2.2 := by rw [← hσ5]; rfl
    have hp5a : AskPre s S2 (wI σ2 (138 + 3 * l) 1 v) := hp2.b hs rfl (fun b h1 => by funext i; rw [hI_w, if_neg (by omega)]) (by rw [hI_w, if_neg (by omega)])
    have hfi5 : FrI s (s + 7) (wI σ2 (138 + 3 * l) 1 v) σ5 := by
      rw [← hσ5]
      exact (FrI.w (by omega) (by omega)).tr (FrI.w (by omega) (by omega))
    have h55 : hI σ5 s 5 = hI (wI σ2 (138 + 3 * l) 1 v) s 5 := by
      rw [← hσ5, hI_w, if_neg (by omega), hI_w, if_neg (by omega)]
    have hSf5 : RSf σ5 s (uf (uf S2.1 (800 + l) (S2.1 (800 + l) + 1)) 812 (S2.1 812 + n2)) := by
      rw [← hσ5]
      exact (hp5a.2.2.2.1.2.1.w (by omega)).w (by omega)
    have hst5 : RSt σ5 s (uf (uf S2.1 (800 + l) (S2.1 (800 + l) + 1)) 812 (S2.1 812 + n2), S2.2.1, S2.2.2) := hp5a.2.2.2.1.int hfi5 h55 hSf5 rfl hs.2
    have hfs5 : FrS s (wI σ2 (138 + 3 * l) 1 v) σ5 := FrS.i hfi5 (by omega) (by omega)
    have hfa5 : FrA (l + 1) s σ σ5 := hf12.tr ((FrA.b (l := l + 1) (s := s) (σ := σ2) (σ' := wI σ2 (138 + 3 * l) 1 v) rfl (fun b h1 => by
      funext i
      rw [hI_w, if_neg]
      rintro ⟨e, -⟩
      exact h1 ⟨l, by omega, by omega⟩) (by omega)).tr (FrA.s (by omega) hfs5))
    have ho5 : OBJ s (S.1 815) σ S.2.1 σ5 S2.2.1 := ho12.tr (OBJ.st2 (z := S.1 815) (by show σ5.2.1 _ = σ2.2.1 _; rw [e5]) (fun b h1 h2 => by rw [hfi5.2 b (by omega)]; funext i; rw [hI_w, if_neg (by omega)]) (by rw [← hσ5, hI_w, if_neg (by omega), hI_w, if_neg (by omega), hI_w, if_neg (by omega)])) (Int.le_refl _) hp.2.2.2.1.2.2.2 hp.pos
    have ek5 : sk σ5 = sk σ2 := by
      show σ5.2.2.1 = _
      rw [e5]
    have er5 : hR σ5 = hR σ2 := by
      show σ5.2.1 = _
      rw [e5]
    have hRM5 : RM σ5 (138 + 3 * l) (l, v, n2, 0, 0, d2) := by
      have h9 : RM (wI σ2 (138 + 3 * l) 1 v) (138 + 3 * l) (l, v, n2, 0, 0, d2) := by
        refine ⟨?_, ?_, ?_, ?_, ?_, ?_, fun i x hx => ?_⟩
        · rw [hI_w, if_neg (by omega)]; exact hRM2.1
        · rw [hI_w, if_pos ⟨rfl, rfl⟩]
        · rw [hI_w, if_neg (by omega)]; exact hRM2.2.2.1
        · rw [hI_w, if_neg (by omega)]; exact hRM2.2.2.2.1
        · rw [hI_w, if_neg (by omega)]; exact hRM2.2.2.2.2.1
        · rw [hI_w, if_neg (by omega)]; exact hRM2.2.2.2.2.2.1
        · rw [hI_w, if_neg (by omega), hI_w, if_neg (by omega)]
          exact hRM2.2.2.2.2.2.2 i x hx
      exact RM.fr h9 hfi5 (by omega)
    have hk121 : (sk σ5 121).1 = 1 := by rw [ek5]; exact hp2.1.1
    have hr121 : hR σ5 121 0 = some s := by rw [er5]; exact hp2.2.1
    have hks : (sk σ5 s).1 = 5 := by rw [ek5]; exact hS2.1
    have hk2 : sk σ5 (s + 2) = (10, 2) := by rw [ek5]; exact hS2.2.2.1
    have hr2 : hR σ5 s 2 = some (s + 2) := by rw [er5]; exact hS2.2.2.2.2.2.2.2.2.1
    have hs15 : hI σ5 (s + 2) 1 = S2.1 1 := by rw [← hσ5, hI_w, if_neg (by omega), hI_w, if_neg (by omega), hI_w, if_neg (by omega)]; exact hs1
    have hs05 : hI σ5 (s + 2) 0 = S2.1 0 := by rw [← hσ5, hI_w, if_neg (by omega), hI_w, if_neg (by omega), hI_w, if_neg (by omega)]; exact hs0
    have hs65 : hI σ5 s 6 = S2.1 815 := by rw [← hσ5, hI_w, if_neg (by omega), hI_w, if_neg (by omega), hI_w, if_neg (by omega)]; exact hs6
    have h138 : v ≠ 100 ∨ S2.1 1 = 1 → WA G d 0 0 mX0_rememberedValue 138 [Va 121, Vi (l : Int), Va r, Vi (-1), Vi v, Va (138 + 3 * l)] [] σ5 Q := by
      intro hkeep
      unfold bakeS at hQ hbk
      rw [if_pos hkeep] at hQ hbk
      have hdl := WFl_len hd2
      refine ar_aload_n 139 rfl d_X0_rememberedValue_138 rfl ?_
      refine ar_getA 142 rfl d_X0_rememberedValue_139 fl_X0_57 rfl (by assumption) (by assumption) ?_
      refine ar_aload 144 rfl d_X0_rememberedValue_142 rfl ?_
      refine ar_callV0 (M' := mX4_keepMemory) (As := [_]) (ls' := [Va _, Vr _]) 147 rfl d_X0_rememberedValue_144 ml_X0_119 mt_X4_keepMemory (by assumption) rfl (Nat.le_of_ble_eq_true rfl) rfl (Nat.le_of_ble_eq_true rfl) (by omega) ?_
      refine sp_X4_keepMemory (room := (S2.1 0).toNat) (ser := S2.1 815) (L := S2.2.1) (D := (l, v, n2, 0, 0, d2)) hst5.1 hst5.2.2.2 ?_ (by rw [hs05]; omega) (by omega) hs65 hp2.pos hW2.2.2.2.2.1 hRM5 ?_ (by show d2.length ≤ 18; omega) (by omega) (by omega) (fun σ6 hf6 hL6 ho6 => ?_)
      · have := hW2.2.2.2.2.2.1
        omega
      · exact hsd.fr e5
      refine ar_iload 149 rfl d_X0_rememberedValue_147 rfl ?_
      refine WA.ret (some (Vi _)) ⟨d_X0_rememberedValue_149, rfl, Or.inl rfl⟩ ?_
      have hstS : RSt (wI σ5 s 6 (S2.1 815 + 1)) s (uf (uf (uf S2.1 (800 + l) (S2.1 (800 + l) + 1)) 812 (S2.1 812 + n2)) 815 (S2.1 815 + 1), S2.2.1, S2.2.2) := hst5.int (FrI.w (by omega) (by omega)) (by rw [hI_w, if_neg (by omega)]) (hSf5.w (by omega)) rfl hs.2
      have hst6 := hstS.mem hf6 hL6 hs.2
      have hfs6 : FrS s σ5 σ6 := (FrS.i (FrI.w (lo := s) (hi := s + 1) (j := 6) (x := S2.1 815 + 1) (a := s) (by omega) (by omega)) (by omega) (by omega)).tr (FrS.m hf6)
      exact hQ σ6 (hp5a.to hs (hfs5.tr hfs6) hst6 hbk) (hfa5.tr (FrA.s (by omega) hfs6)) (ho5.tr ho6 (by omega) hp.2.2.2.1.2.2.2 hp.pos)
    have h147 : ¬ (v ≠ 100 ∨ S2.1 1 = 1) → WA G d 0 0 mX0_rememberedValue 147 [Va 121, Vi (l : Int), Va r, Vi (-1), Vi v, Va (138 + 3 * l)] [] σ5 Q := by
      intro hkeep
      unfold bakeS at hQ hbk
      rw [if_neg hkeep] at hQ hbk
      refine ar_iload 149 rfl d_X0_rememberedValue_147 rfl ?_
      refine WA.ret (some (Vi _)) ⟨d_X0_rememberedValue_149, rfl, Or.inl rfl⟩ ?_
      exact hQ σ5 (hp5a.to hs hfs5 hst5 hbk) hfa5 ho5
    refine ar_iload 120 rfl d_X0_rememberedValue_118 rfl ?_
    refine ar_bipush 122 rfl d_X0_rememberedValue_120 rfl ?_
    refine ar_icmp_ne 138 125 rfl rfl d_X0_rememberedValue_122 (by omega) (by omega) (fun g122 => ?_) (fun g122 => ?_)
    · exact h138 (Or.inl g122)
    · refine ar_aload_n 126 rfl d_X0_rememberedValue_125 rfl ?_
      refine ar_getA 129 rfl d_X0_rememberedValue_126 fl_X0_57 rfl (by assumption) (by assumption) ?_
      refine ar_getA 132 rfl d_X0_rememberedValue_129 fl_X0_116 rfl (by assumption) (by assumption) ?_
      refine ar_iconst 133 rfl d_X0_rememberedValue_132 ?_
      refine ar_ilv (y := (S2.1 1)) 134 rfl d_X0_rememberedValue_133 (by assumption) (by omega) hs15 ?_
      refine ar_iconst 135 rfl d_X0_rememberedValue_134 ?_
      refine ar_icmp_ne 147 138 rfl rfl d_X0_rememberedValue_135 (by omega) (by omega) (fun g135 => ?_) (fun g135 => ?_)
      · exact h147 (by omega)
      · exact h138 (Or.inr g135)
end ASKY
