-- ===== the reference: fault, recipe =====
theorem FrC.fi {σ σ' : Sg} (h : FrC σ σ') : FrI 625 652 σ σ' := ⟨h.1, fun b hb => h.2.1 b (by omega) (by omega) (by omega) (by omega) (by omega)⟩
theorem RepM.frc {C : CS} {σ σ' : Sg} (h : RepM C σ) (hf : FrC σ σ') : RepM C σ' := h.go hf.1 (fun b a1 a2 => hf.2.1 b (by omega) (by omega) (by omega) (by omega) (by omega)) (hf.2.2 3 (by omega) (by omega) (by omega)) (hf.2.2 7 (by omega) (by omega) (by omega)) (hf.2.1 626 (by omega) (by omega) (by omega) (by omega) (by omega))
theorem cLo_sh {c : Rcpe} {l : Nat} (h : ∀ x ∈ c, x.1 = 0 → 20 ≤ x.2 → x.2 < 20 + (l : Int)) : cLo c >>> l = 0 := by
  have h1 : cLo c < 2 ^ l := by
    induction c with
    | nil => exact Nat.two_pow_pos l
    | cons x t ih =>
      rw [cLo]
      refine Nat.or_lt_two_pow ?_ (ih (fun y hy => h y (List.mem_cons_of_mem _ hy)))
      by_cases e : x.1 = 0 ∧ 20 ≤ x.2
      · rw [if_pos e]
        have h2 := h x List.mem_cons_self e.1 e.2
        exact Nat.pow_lt_pow_right (by decide) (by omega)
      · rw [if_neg e]
        exact Nat.two_pow_pos l
  rw [Nat.shiftRight_eq_div_pow]
  exact Nat.div_eq_of_lt h1
theorem cLo_hi {c : Rcpe} {l : Nat} {x : Int × Int} (hx : x ∈ c) (h0 : x.1 = 0) (h1 : 20 + (l : Int) ≤ x.2) : cLo c >>> l ≠ 0 := by
  intro e
  have h2 := cLo_bit c x hx h0 (by omega)
  have h3 : (cLo c >>> l).testBit ((x.2 - 20).toNat - l) = true := by
    rw [Nat.testBit_shiftRight, show l + ((x.2 - 20).toNat - l) = (x.2 - 20).toNat by omega]
    exact h2
  rw [e, Nat.zero_testBit] at h3
  cases h3
theorem Rs.code {g g' : Nat → Int} {S : SS} {l : Nat} {c : Rcpe} (h : Rs g S) (hb : Bd S) (hl : l < 6) (hc : c.length < 60) (h26 : g' (26 + l) = (c.length : Int)) (hco : ∀ j x, c[j]? = some x → g' (32 + 64 * l + j) = oK x ∧ g' (416 + 64 * l + j) = oA x) (ho : ∀ j, j ≠ 26 + l → (j < 32 + 64 * l ∨ 32 + 64 * l + 60 ≤ j) → (j < 416 + 64 * l ∨ 416 + 64 * l + 60 ≤ j) → g' j = g j) : Rs g' (S.1, S.2.1, fun j => if j = l then c else S.2.2 j) := by
  obtain ⟨a1, a2, a3, a4, a5, a6⟩ := h
  refine ⟨fun i hi => by rw [ho i (by omega) (by omega) (by omega)]; exact a1 i hi, fun l' hl' => ?_, fun i hi hi2 => by rw [ho i (by omega) (by omega) (by omega)]; exact a3 i hi hi2, by rw [ho 814 (by omega) (by omega) (by omega)]; exact a4, by rw [ho 815 (by omega) (by omega) (by omega)]; exact a5, fun q M hM => ?_⟩
  · show g' (26 + l') = (((if l' = l then c else S.2.2 l').length : Nat) : Int) ∧ ∀ j x, (if l' = l then c else S.2.2 l')[j]? = some x → g' (32 + 64 * l' + j) = oK x ∧ g' (416 + 64 * l' + j) = oA x
    by_cases e : l' = l
    · rw [if_pos e, e]
      exact ⟨h26, hco⟩
    · rw [if_neg e]
      refine ⟨by rw [ho _ (by omega) (by omega) (by omega)]; exact (a2 l' hl').1, fun j x hx => ?_⟩
      have hj := (List.getElem?_eq_some_iff.mp hx).1
      have := hb.2.2 l' hl'
      rw [ho _ (by omega) (by omega) (by omega), ho _ (by omega) (by omega) (by omega)]
      exact (a2 l' hl').2 j x hx
  · exact (a6 q M hM).mv (hb.2.1 M (List.mem_of_getElem? hM)) (fun i hi => ho _ (by omega) (by omega) (by omega))
theorem Pok.of {C : CS} {σ : Sg} (h : RepM C σ) : Pok C.2.2.2 := ⟨h.2.2.2.2.2.1, fun j x hx => (h.2.2.2.2.2.2 j x hx).2⟩
section REF13
variable {G : GT} {d k n : Nat} {σ : Sg} {Q : Option AV → Sg → Prop} {C : CS}
theorem sp_compileM (h : RepM C σ) (hdp : 4 ≤ d) (hQ : ∀ σ', FrC σ σ' → RepM C σ' → (ffA C.2.2.2 = -6 → ∃ (c : Rcpe) (g : Nat), (rdT ([], 0, []) C.2.2.2).2 = (c, g, []) ∧ Rd C.2.2.2 C.2.2.2.length (c, g, []) ∧ 2 ≤ g ∧ Cp σ' C.2.2.2 C.2.2.2.length c []) → Q (some (Vi (ffA C.2.2.2))) σ') : WA G d k n mX6_compile 0 [Va 625, Vu] [] σ Q :=
  sp_X6_compile h.1 (Pok.of h) h.2.2.2.2.1 (fun j x hx => (h.2.2.2.2.2.2 j x hx).1) hdp (fun σ' f1 f2 => hQ σ' f1 (h.frc f1) f2)
theorem sp_X6_fault (h : RepM C σ) (hdp : 40 ≤ d) (hQ : ∀ σ', FrI 625 652 σ σ' → RepM C σ' → Q (some (Vi (ffA C.2.2.2))) σ') : WA G d k n mX6_fault 0 [Va 625] [] σ Q := by
  have k625 := h.1.k625
  refine ar_aload_n 1 rfl d_X6_fault_0 rfl ?_
  refine ar_callV0 (M' := mX6_compile) (As := []) (ls' := [Va _, Vu]) 4 rfl d_X6_fault_1 ml_X6_144 mt_X6_compile (by assumption) rfl (Nat.le_of_ble_eq_true rfl) rfl (Nat.le_of_ble_eq_true rfl) (by omega) ?_
  refine sp_compileM h (by omega) (fun σ1 f1 h1 f2 => ?_)
  refine WA.ret (some (Vi _)) ⟨d_X6_fault_4, rfl, Or.inl rfl⟩ ?_
  exact hQ σ1 f1.fi h1
/-- the number of parts, or a loaf that is not lower -/
theorem rec25 {l : Nat} {c : Rcpe} (hS : Sh6 σ) (hl : l < 6) (hcl : c.length < 64) (h10 : hI σ 625 10 = (c.length : Int)) (hok : ∀ x ∈ c, Ok1 x) (hco : ∀ j x, c[j]? = some x → hI σ 632 j = oK x ∧ hI σ 633 j = oA x)
    (hq5 : cLo c >>> l ≠ 0 → Q (some (Vi (-5))) σ) (hk : cLo c >>> l = 0 → ∀ x3, WA G d k n mX6_recipe 81 [Va 625, Vi (l : Int), Vi (cParts c), x3] [] σ Q) : WA G d k n mX6_recipe 25 [Va 625, Vi (l : Int), Vi 0, Vi 0] [] σ Q := by
  have k625 := hS.k625
  have r8 := hS.r8
  have k632 := hS.k632
  have r9 := hS.r9
  have k633 := hS.k633
  have r0 := hS.r0
  have k626 := hS.k626
  have loop : ∀ (r i : Nat), c.length - i = r → i ≤ c.length → (∀ x ∈ c.take i, x.1 = 0 → 20 ≤ x.2 → x.2 < 20 + (l : Int)) → WA G d k n mX6_recipe 25 [Va 625, Vi (l : Int), Vi (cParts (c.take i)), Vi (i : Int)] [] σ Q := by
    intro r
    induction r using Nat.strongRecOn with
    | ind r ih =>
    intro i hr9 hi hlow
    refine ar_iload_n 26 rfl d_X6_recipe_25 rfl ?_
    refine ar_aload_n 27 rfl d_X6_recipe_26 rfl ?_
    refine ar_getI 30 rfl d_X6_recipe_27 fl_X6_104 rfl (by assumption) ?_
    refine ar_icmp_ge 81 33 rfl rfl d_X6_recipe_30 (by omega) (by omega) (fun g30 => ?_) (fun g30 => ?_)
    · rw [List.take_of_length_le (by omega)] at hlow ⊢
      exact hk (cLo_sh hlow) _
    · have hlt : i < c.length := by omega
      obtain ⟨x, hx⟩ : ∃ x, c[i]? = some x := ⟨_, List.getElem?_eq_getElem hlt⟩
      have hxm := List.mem_of_getElem? hx
      have hxo := hok x hxm
      have hxx := hco i x hx
      have htk : c.take (i + 1) = c.take i ++ [x] := by rw [List.take_succ, hx]; rfl
      have hap := cParts_app (c.take i) x
      rw [← htk] at hap
      have hoK : i32 (oK x) ∧ (oK x = 7 ↔ x.1 = 6) := by
        have h1 := hxo.1
        have h2 := hxo.2.1
        unfold oK
        refine ⟨?_, ?_⟩
        · split
          · split <;> constructor <;> omega
          · constructor <;> omega
        · split
          · split <;> constructor <;> intro h <;> omega
          · constructor <;> intro h <;> omega
      have hoA : i32 (oA x) := by
        have h1 := hxo.2.2.2.2
        unfold oA
        split <;> constructor <;> omega
      have h56 : (x.1 = 0 → 20 ≤ x.2 → x.2 < 20 + (l : Int)) → WA G d k n mX6_recipe 56 [Va 625, Vi (l : Int), Vi (cParts (c.take i)), Vi (i : Int)] [] σ Q := by
        intro hxl
        have h74 : WA G d k n mX6_recipe 74 [Va 625, Vi (l : Int), Vi (cParts (c.take i)), Vi (i : Int)] [Vi (cParts (c.take (i + 1)))] σ Q := by
          refine ar_ist_2 75 rfl d_X6_recipe_74 rfl (by intro _ h; cases h) ?_
          refine ar_inc_3 (y := ((i + 1 : Nat) : Int)) 78 rfl d_X6_recipe_75 rfl (by intro _ h; cases h) (by omega) ?_
          refine ar_goto 25 rfl d_X6_recipe_78 ?_
          refine ih (c.length - (i + 1)) (by omega) (i + 1) rfl (by omega) (fun y hy => ?_)
          rw [htk] at hy
          rcases List.mem_append.mp hy with e | e
          · exact hlow y e
          · rw [List.mem_singleton.mp e]
            exact hxl
        refine ar_iload_n 57 rfl d_X6_recipe_56 rfl ?_
        refine ar_aload_n 58 rfl d_X6_recipe_57 rfl ?_
        refine ar_getA 61 rfl d_X6_recipe_58 fl_X6_29 rfl (by assumption) (by assumption) ?_
        refine ar_iload_n 62 rfl d_X6_recipe_61 rfl ?_
        refine ar_ilv (y := (oK x)) 63 rfl d_X6_recipe_62 (by assumption) (by omega) (by rw [Int.toNat_natCast]; exact hxx.1) ?_
        refine ar_bipush 65 rfl d_X6_recipe_63 rfl ?_
        refine ar_icmp_ne 72 68 rfl rfl d_X6_recipe_65 (by first | exact hoK.1 | (constructor <;> omega)) (by first | exact hoK.1 | (constructor <;> omega)) (fun g65 => ?_) (fun g65 => ?_)
        · refine ar_iconst 73 rfl d_X6_recipe_72 ?_
          refine ar_iadd 74 rfl d_X6_recipe_73 ?_
          refine ar_top (y := cParts (c.take (i + 1))) (by rw [hap, if_neg (fun h => g65 (hoK.2.mpr h))]) ?_
          exact h74
        · refine ar_iconst 69 rfl d_X6_recipe_68 ?_
          refine ar_goto 73 rfl d_X6_recipe_69 ?_
          refine ar_iadd 74 rfl d_X6_recipe_73 ?_
          refine ar_top (y := cParts (c.take (i + 1))) (by rw [hap, if_pos (hoK.2.mp g65)]) ?_
          exact h74
      refine ar_aload_n 34 rfl d_X6_recipe_33 rfl ?_
      refine ar_getA 37 rfl d_X6_recipe_34 fl_X6_29 rfl (by assumption) (by assumption) ?_
      refine ar_iload_n 38 rfl d_X6_recipe_37 rfl ?_
      refine ar_ilv (y := (oK x)) 39 rfl d_X6_recipe_38 (by assumption) (by omega) (by rw [Int.toNat_natCast]; exact hxx.1) ?_
      refine ar_iconst 40 rfl d_X6_recipe_39 ?_
      refine ar_icmp_ne 56 43 rfl rfl d_X6_recipe_40 (by first | exact hoK.1 | (constructor <;> omega)) (by first | exact hoK.1 | (constructor <;> omega)) (fun g40 => ?_) (fun g40 => ?_)
      · refine h56 (fun e0 e1 => absurd ?_ g40)
        unfold oK
        rw [if_pos e0, if_neg (by omega)]
      · have e01 : x.1 = 0 ∧ 20 ≤ x.2 := by
          have h1 := hxo.1
          unfold oK at g40
          split at g40
          · rename_i e0
            split at g40
            · omega
            · exact ⟨e0, by omega⟩
          · omega
        have eA : oA x = x.2 - 20 := by unfold oA; rw [if_pos e01]
        refine ar_aload_n 44 rfl d_X6_recipe_43 rfl ?_
        refine ar_getA 47 rfl d_X6_recipe_44 fl_X6_32 rfl (by assumption) (by assumption) ?_
        refine ar_iload_n 48 rfl d_X6_recipe_47 rfl ?_
        refine ar_ilv (y := (oA x)) 49 rfl d_X6_recipe_48 (by assumption) (by omega) (by rw [Int.toNat_natCast]; exact hxx.2) ?_
        refine ar_iload_n 50 rfl d_X6_recipe_49 rfl ?_
        refine ar_icmp_lt 56 53 rfl rfl d_X6_recipe_50 (by first | exact hoA | (constructor <;> omega)) (by first | exact hoA | (constructor <;> omega)) (fun g50 => ?_) (fun g50 => ?_)
        · exact h56 (fun _ _ => by omega)
        · refine ar_bipush 55 rfl d_X6_recipe_53 rfl ?_
          refine WA.ret (some (Vi _)) ⟨d_X6_recipe_55, rfl, Or.inl rfl⟩ ?_
          exact hq5 (cLo_hi hxm e01.1 (by omega))
  exact loop _ 0 rfl (by omega) (fun x hx => by cases hx)
/-- memories of a loaf go -/
theorem rec171 {l : Nat} {f : Nat → Int} {L : List Mem} {rc : Nat → Rcpe} {y : Int} (hS : Sh6 σ) (hl : l < 6) (hr : Rs (hI σ 626) (f, L, rc)) (hb : Bd (f, L, rc)) (hW : ∀ M ∈ L, i32 (mLoaf M)) (hdp : 2 ≤ d) (hQ : ∀ σ', FrI 626 627 σ σ' → Rs (hI σ' 626) (f, L.filter (notOf (l : Int)), rc) → Q (some (Vi y)) σ') : WA G d k n mX6_recipe 171 [Va 625, Vi (l : Int), Vi y, Vi ((L.length : Int) - 1)] [] σ Q := by
  have loop : ∀ (i : Nat) (σi : Sg), i ≤ L.length → FrI 626 627 σ σi → Rs (hI σi 626) (f, L.take i ++ (L.drop i).filter (notOf (l : Int)), rc) → WA G d k n mX6_recipe 171 [Va 625, Vi (l : Int), Vi y, Vi ((i : Int) - 1)] [] σi Q := by
    intro i
    induction i with
    | zero =>
      intro σi hi hf hri
      refine ar_iload_n 172 rfl d_X6_recipe_171 rfl ?_
      refine ar_if_lt 204 175 rfl rfl d_X6_recipe_172 (by omega) (fun g172 => ?_) (fun h => by omega)
      refine ar_iload_n 205 rfl d_X6_recipe_204 rfl ?_
      refine WA.ret (some (Vi _)) ⟨d_X6_recipe_205, rfl, Or.inl rfl⟩ ?_
      exact hQ σi hf (by simpa using hri)
    | succ i ih =>
      intro σi hi hf hri
      have hSi := hS.e hf.1
      have k625 := hSi.k625
      have r8 := hSi.r8
      have k632 := hSi.k632
      have r9 := hSi.r9
      have k633 := hSi.k633
      have r0 := hSi.r0
      have k626 := hSi.k626
      have hlt : i < L.length := by omega
      have hL16 : L.length ≤ 16 := hb.1
      have hMi : (L.take (i + 1) ++ (L.drop (i + 1)).filter (notOf (l : Int)))[i]? = some L[i] := by
        rw [List.getElem?_append_left (by rw [List.length_take]; omega), List.getElem?_take_of_lt (by omega)]
        exact List.getElem?_eq_getElem hlt
      have hw1 := hW _ (List.getElem_mem hlt)
      have hdr : L.drop i = L[i] :: L.drop (i + 1) := List.drop_eq_getElem_cons hlt
      obtain ⟨m0, m1, m2, m3, m4, m5, m6⟩ := hri.2.2.2.2.2 i _ hMi
      have hbi : Bd (f, L.take (i + 1) ++ (L.drop (i + 1)).filter (notOf (l : Int)), rc) := by
        refine ⟨?_, fun M hM => ?_, hb.2.2⟩
        · show (L.take (i + 1) ++ (L.drop (i + 1)).filter (notOf (l : Int))).length ≤ 16
          have h9 := List.length_filter_le (notOf (l : Int)) (L.drop (i + 1))
          rw [List.length_drop] at h9
          rw [List.length_append, List.length_take]
          omega
        · have hM : M ∈ L.take (i + 1) ++ (L.drop (i + 1)).filter (notOf (l : Int)) := hM
          rcases List.mem_append.mp hM with e | e
          · exact hb.2.1 M (List.mem_of_mem_take e)
          · exact hb.2.1 M (List.mem_of_mem_drop (List.mem_filter.mp e).1)
      refine ar_iload_n 172 rfl d_X6_recipe_171 rfl ?_
      refine ar_if_lt 204 175 rfl rfl d_X6_recipe_172 (by omega) (fun h => by omega) (fun g172 => ?_)
      refine ar_aload_n 176 rfl d_X6_recipe_175 rfl ?_
      refine ar_getA 179 rfl d_X6_recipe_176 fl_X6_7 rfl (by assumption) (by assumption) ?_
      refine ar_iload_n 180 rfl d_X6_recipe_179 rfl ?_
      refine ar_top (y := (i : Int)) (by omega) ?_
      refine ar_callS0 (M' := mX6_memoryAt) (As := [_]) (ls' := [Vi _]) 183 rfl d_X6_recipe_180 ml_X6_147 mt_X6_memoryAt rfl (Nat.le_of_ble_eq_true rfl) rfl (Nat.le_of_ble_eq_true rfl) (by omega) ?_
      refine sp_X6_memoryAt (by omega) ?_
      refine ar_iconst 184 rfl d_X6_recipe_183 ?_
      refine ar_iadd 185 rfl d_X6_recipe_184 ?_
      refine ar_top (y := ((816 + 40 * i + 1 : Nat) : Int)) (by omega) ?_
      refine ar_ilv (y := (mLoaf L[i])) 186 rfl d_X6_recipe_185 (by assumption) (by omega) (by rw [Int.toNat_natCast]; exact m1) ?_
      refine ar_iload_n 187 rfl d_X6_recipe_186 rfl ?_
      refine ar_icmp_ne 198 190 rfl rfl d_X6_recipe_187 (by omega) (by omega) (fun g187 => ?_) (fun g187 => ?_)
      · refine ar_inc_3 (y := ((i : Int) - 1)) 201 rfl d_X6_recipe_198 rfl (by intro _ h; cases h) (by omega) ?_
        refine ar_goto 171 rfl d_X6_recipe_201 ?_
        refine ih σi (by omega) hf ?_
        have e : L.take i ++ (L.drop i).filter (notOf (l : Int)) = L.take (i + 1) ++ (L.drop (i + 1)).filter (notOf (l : Int)) := by
          rw [hdr, List.filter_cons_of_pos (by simp [notOf]; exact g187), List.take_succ_eq_append_getElem hlt, List.append_assoc]
          rfl
        rw [e]
        exact hri
      · refine ar_aload_n 191 rfl d_X6_recipe_190 rfl ?_
        refine ar_getA 194 rfl d_X6_recipe_191 fl_X6_7 rfl (by assumption) (by assumption) ?_
        refine ar_iload_n 195 rfl d_X6_recipe_194 rfl ?_
        refine ar_top (y := (i : Int)) (by omega) ?_
        refine ar_callS0 (M' := mX6_cutMemory) (As := [_, _]) (ls' := [Vr _, Vi _, Vu]) 198 rfl d_X6_recipe_195 ml_X6_240 mt_X6_cutMemory rfl (Nat.le_of_ble_eq_true rfl) rfl (Nat.le_of_ble_eq_true rfl) (by omega) ?_
        refine sp_X6_cutMemory k626 hri hbi (by show i < (L.take (i + 1) ++ (L.drop (i + 1)).filter (notOf (l : Int))).length; rw [List.length_append, List.length_take]; omega) (by omega) (fun σ1 hf1 hr1 => ?_)
        have hr1 : Rs (hI σ1 626) (f, (L.take (i + 1) ++ (L.drop (i + 1)).filter (notOf (l : Int))).eraseIdx i, rc) := hr1
        rw [app_er hlt] at hr1
        refine ar_inc_3 (y := ((i : Int) - 1)) 201 rfl d_X6_recipe_198 rfl (by intro _ h; cases h) (by omega) ?_
        refine ar_goto 171 rfl d_X6_recipe_201 ?_
        refine ih σ1 (by omega) (hf.tr hf1) ?_
        have e : L.take i ++ (L.drop i).filter (notOf (l : Int)) = L.take i ++ (L.drop (i + 1)).filter (notOf (l : Int)) := by
          rw [hdr, List.filter_cons_of_neg (by simp [notOf]; exact g187)]
        rw [e]
        exact hr1
  exact loop L.length σ (Nat.le_refl _) FrI.rf (by
    rw [List.take_length, List.drop_length]
    simpa using hr)
set_option maxHeartbeats 8000000 in
theorem sp_X6_recipe {x : Int} (h : RepM C σ) (hx : i32 x) (hdp : 40 ≤ d) (hQ : ∀ σ', FrI 625 652 σ σ' → RepM (recC x C).1 σ' → Q (some (Vi (recC x C).2)) σ') : WA G d k n mX6_recipe 0 [Va 625, Vi x, Vu, Vu] [] σ Q := by
  have k625 := h.1.k625
  have hff0 := ffA_r h.2.2.2.2.2.1
  have hffr : i32 (ffA C.2.2.2) := by constructor <;> omega
  unfold recC at hQ
  refine ar_iload_n 1 rfl d_X6_recipe_0 rfl ?_
  refine ar_callS0 (M' := mX6_isLoaf) (As := [_]) (ls' := [Vi _]) 4 rfl d_X6_recipe_1 ml_X6_234 mt_X6_isLoaf rfl (Nat.le_of_ble_eq_true rfl) rfl (Nat.le_of_ble_eq_true rfl) (by omega) ?_
  refine sp_X6_isLoaf hx (by omega) (fun g1 => ?_) (fun g1 => ?_)
  · refine ar_if_ne 9 7 rfl rfl d_X6_recipe_4 (by omega) (fun g4 => ?_) (fun h => absurd h (by decide))
    refine ar_aload_n 10 rfl d_X6_recipe_9 rfl ?_
    refine ar_callV0 (M' := mX6_compile) (As := []) (ls' := [Va _, Vu]) 13 rfl d_X6_recipe_10 ml_X6_144 mt_X6_compile (by assumption) rfl (Nat.le_of_ble_eq_true rfl) rfl (Nat.le_of_ble_eq_true rfl) (by omega) ?_
    refine sp_compileM h (by omega) (fun σ1 f1 h1 f2 => ?_)
    rw [if_neg (fun h => h g1)] at hQ
    refine ar_bipush 15 rfl d_X6_recipe_13 rfl ?_
    refine ar_icmp_eq 21 18 rfl rfl d_X6_recipe_15 (by first | exact hffr | (constructor <;> omega)) (by first | exact hffr | (constructor <;> omega)) (fun g15 => ?_) (fun g15 => ?_)
    · rw [if_neg (fun h => h g15)] at hQ
      obtain ⟨c, gg, hrd, hR, hg2, hC⟩ := f2 g15
      rw [hrd] at hQ
      simp only [] at hQ
      obtain ⟨l, rfl⟩ : ∃ l : Nat, x = (l : Int) := ⟨x.toNat, by omega⟩
      have hl6 : l < 6 := by omega
      simp only [Int.toNat_natCast] at hQ
      obtain ⟨hh, hht⟩ := hR.2.2.2.ht hg2
      have hne : c ≠ [] := by
        intro e
        rw [e] at hht
        have h1 := hht.1
        have h2 := hht.2.1
        rw [List.length_nil] at h2
        omega
      have hRI := hR.2.2.1
      have hlen60 := h.2.2.2.2.2.1
      have hS1 := h1.1
      obtain ⟨p1, p2, p3, p4, p5, p6, p7⟩ := hC
      have hcl : c.length ≤ C.2.2.2.length := hRI.1
      refine ar_iconst 22 rfl d_X6_recipe_21 ?_
      refine ar_ist_2 23 rfl d_X6_recipe_22 rfl (by intro _ h; cases h) ?_
      refine ar_iconst 24 rfl d_X6_recipe_23 ?_
      refine ar_ist_3 25 rfl d_X6_recipe_24 rfl (by intro _ h; cases h) ?_
      refine rec25 hS1 hl6 (by omega) p2 hRI.2.2.2.2.2.1 p4 (fun e5 => ?_) (fun e0 x3 => ?_)
      · rw [if_pos e5] at hQ
        exact hQ σ1 f1.fi h1
      rw [if_neg (fun h => h e0)] at hQ
      have hwc : WFc l c := wfc_of (st := (c, gg, [])) hRI hlen60 e0 hne
      have k625 := hS1.k625
      refine ar_aload_n 82 rfl d_X6_recipe_81 rfl ?_
      refine ar_callV0 (M' := mX6_record) (As := []) (ls' := [Va _, Vu]) 85 rfl d_X6_recipe_82 ml_X6_225 mt_X6_record (by assumption) rfl (Nat.le_of_ble_eq_true rfl) rfl (Nat.le_of_ble_eq_true rfl) (by omega) ?_
      refine sp_X6_record2 h1 (by omega) (fun σ2 f3 h2 => ?_)
      have hS2 := h2.1
      have hn2 := h2.2.1
      have hr2 : Rs (hI σ2 626) C.1 := hn2.1
      have hw2 : WFS C.1 := hn2.2.1
      have hb2 := hw2.bd
      have q10 : hI σ2 625 10 = (c.length : Int) := by rw [f3.2.2 10 (by omega)]; exact p2
      have q4 : ∀ j x, c[j]? = some x → hI σ2 632 j = oK x ∧ hI σ2 633 j = oA x := fun j x hx => by
        rw [f3.2.1 632 (by omega) (by omega), f3.2.1 633 (by omega) (by omega)]
        exact p4 j x hx
      have k625 := hS2.k625
      have r8 := hS2.r8
      have k632 := hS2.k632
      have r9 := hS2.r9
      have k633 := hS2.k633
      have r0 := hS2.r0
      have k626 := hS2.k626
      refine ar_aload_n 86 rfl d_X6_recipe_85 rfl ?_
      refine ar_iconst 87 rfl d_X6_recipe_86 ?_
      refine ar_putI 90 rfl d_X6_recipe_87 fl_X6_101 rfl rfl (by assumption) ?_
      refine ar_aload_n 91 rfl d_X6_recipe_90 rfl ?_
      refine ar_getA 94 rfl d_X6_recipe_91 fl_X6_7 rfl (by assumption) (by assumption) ?_
      refine ar_bipush 96 rfl d_X6_recipe_94 rfl ?_
      refine ar_iload_n 97 rfl d_X6_recipe_96 rfl ?_
      refine ar_iadd 98 rfl d_X6_recipe_97 ?_
      refine ar_aload_n 99 rfl d_X6_recipe_98 rfl ?_
      refine ar_giv (y := (c.length : Int)) 102 rfl d_X6_recipe_99 fl_X6_104 rfl (by assumption) (by rw [hI_w, if_neg (by omega)]; exact q10) ?_
      refine ar_iasN (26 + l) 103 rfl d_X6_recipe_102 (by assumption) (by omega) (by omega) ?_
      have hS3 : Sh6 (wI (wI σ2 625 7 0) 626 (26 + l) (c.length : Int)) := hS2.e rfl
      have hfo : ∀ b, b ≠ 625 → b ≠ 626 → hI (wI (wI σ2 625 7 0) 626 (26 + l) (c.length : Int)) b = hI σ2 b := fun b h1 h2 => by rw [hI_off h2, hI_off h1]
      have hf5 : ∀ j, j ≠ 7 → hI (wI (wI σ2 625 7 0) 626 (26 + l) (c.length : Int)) 625 j = hI σ2 625 j := fun j h1 => by rw [hI_off (by omega), hI_w, if_neg (by omega)]
      have hf7 : hI (wI (wI σ2 625 7 0) 626 (26 + l) (c.length : Int)) 625 7 = 0 := by rw [hI_off (by omega), hI_w, if_pos ⟨rfl, rfl⟩]
      have h6 : ∀ j, hI (wI (wI σ2 625 7 0) 626 (26 + l) (c.length : Int)) 626 j = if j = 26 + l then (c.length : Int) else hI σ2 626 j := fun j => by
        rw [hI_w]
        by_cases e : j = 26 + l
        · rw [if_pos ⟨rfl, e⟩, if_pos e]
        · rw [if_neg (fun h => e h.2), if_neg e, hI_off (by omega)]
      have h32 : (wI (wI σ2 625 7 0) 626 (26 + l) (c.length : Int)).2 = σ2.2 := rfl
      generalize wI (wI σ2 625 7 0) 626 (26 + l) (c.length : Int) = σ3 at hS3 hfo hf5 hf7 h6 h32
      have loop : ∀ (r i : Nat) (σi : Sg), c.length - i = r → i ≤ c.length → σi.2 = σ3.2 → (∀ b, b ≠ 626 → hI σi b = hI σ3 b) → (∀ j, (j < 32 + 64 * l ∨ 32 + 64 * l + i ≤ j) → (j < 416 + 64 * l ∨ 416 + 64 * l + i ≤ j) → hI σi 626 j = hI σ3 626 j) → (∀ j x, j < i → c[j]? = some x → hI σi 626 (32 + 64 * l + j) = oK x ∧ hI σi 626 (416 + 64 * l + j) = oA x) → WA G d k n mX6_recipe 105 [Va 625, Vi (l : Int), Vi (cParts c), Vi (i : Int)] [] σi Q := by
        intro r
        induction r using Nat.strongRecOn with
        | ind r ih =>
        intro i σi hr9 hi t1 t2 t3 t4
        have hSi := hS3.e t1
        have i10 : hI σi 625 10 = (c.length : Int) := by rw [t2 625 (by omega), hf5 10 (by omega)]; exact q10
        have k625 := hSi.k625
        have r8 := hSi.r8
        have k632 := hSi.k632
        have r9 := hSi.r9
        have k633 := hSi.k633
        have r0 := hSi.r0
        have k626 := hSi.k626
        refine ar_iload_n 106 rfl d_X6_recipe_105 rfl ?_
        refine ar_aload_n 107 rfl d_X6_recipe_106 rfl ?_
        refine ar_getI 110 rfl d_X6_recipe_107 fl_X6_104 rfl (by assumption) ?_
        refine ar_icmp_ge 160 113 rfl rfl d_X6_recipe_110 (by omega) (by omega) (fun g110 => ?_) (fun g110 => ?_)
        · have hic : i = c.length := by omega
          subst hic
          have hrs : Rs (hI σi 626) (C.1.1, C.1.2.1, fun j => if j = l then c else C.1.2.2 j) := by
            refine hr2.code hb2 hl6 hwc.1 ?_ (fun j x hx => t4 j x (List.getElem?_eq_some_iff.mp hx).1 hx) (fun j h1 h2 h3 => ?_)
            · rw [t3 _ (by omega) (by omega), h6, if_pos rfl]
            · have := hwc.1
              rw [t3 j (by omega) (by omega), h6, if_neg h1]
          have h814 : hI σi 626 814 = (C.1.2.1.length : Int) := hrs.2.2.2.1
          have hwr : WFS (C.1.1, C.1.2.1.filter (notOf (l : Int)), fun j => if j = l then c else C.1.2.2 j) := hw2.rcp hwc _ List.filter_sublist
          have hbr : Bd (C.1.1, C.1.2.1, fun j => if j = l then c else C.1.2.2 j) := (hw2.rcp hwc C.1.2.1 (List.Sublist.refl _)).bd
          refine ar_aload_n 161 rfl d_X6_recipe_160 rfl ?_
          refine ar_getA 164 rfl d_X6_recipe_161 fl_X6_7 rfl (by assumption) (by assumption) ?_
          refine ar_sipush 167 rfl d_X6_recipe_164 rfl ?_
          refine ar_ilv (y := (C.1.2.1.length : Int)) 168 rfl d_X6_recipe_167 (by assumption) (by omega) h814 ?_
          refine ar_iconst 169 rfl d_X6_recipe_168 ?_
          refine ar_isub 170 rfl d_X6_recipe_169 ?_
          refine ar_ist_3 171 rfl d_X6_recipe_170 rfl (by intro _ h; cases h) ?_
          refine rec171 hSi hl6 hrs hbr (fun M hM => ?_) (by omega) (fun σ4 f4 hr4 => ?_)
          · have h8 := hw2.2.2.2.2.2.2.1 M hM
            have h9 := h8.1
            have h10 := h8.2.1
            constructor <;> omega
          have hb4 : ∀ b, b ≠ 625 → b ≠ 626 → hI σ4 b = hI σ2 b := fun b h1 h2 => by rw [f4.2 b (by omega), t2 b h2, hfo b h1 h2]
          have hb5 : ∀ j, j ≠ 7 → hI σ4 625 j = hI σ2 625 j := fun j h1 => by rw [f4.2 625 (by omega), t2 625 (by omega), hf5 j h1]
          have hb7 : hI σ4 625 7 = 0 := by rw [f4.2 625 (by omega), t2 625 (by omega)]; exact hf7
          have hall : σ4.2 = σ2.2 := f4.1.trans (t1.trans h32)
          refine hQ σ4 (f1.fi.tr (f3.fi.tr ⟨hall, fun b hb => hb4 b (by omega) (by omega)⟩)) ⟨hS2.e hall, ⟨hr4, hwr, fun l' hl' => ?_⟩, ⟨?_, h2.2.2.1.2.1, ?_⟩, ?_, ?_, Nat.zero_le _, fun j x hx => by cases hx⟩
          · show (if l' = l then c else C.1.2.2 l') = [] ∨ ∃ hs, HtC (if l' = l then c else C.1.2.2 l') hs
            by_cases e : l' = l
            · rw [if_pos e]
              exact Or.inr ⟨hh, hht⟩
            · rw [if_neg e]
              exact hn2.2.2 l' hl'
          · rw [hb5 3 (by omega)]
            exact h2.2.2.1.1
          · rw [hb4 628 (by omega) (by omega)]
            exact h2.2.2.1.2.2
          · rw [hb4 629 (by omega) (by omega), hb4 630 (by omega) (by omega)]
            exact h2.2.2.2.1
          · exact hb7
        · have hlt : i < c.length := by omega
          obtain ⟨x, hx⟩ : ∃ x, c[i]? = some x := ⟨_, List.getElem?_eq_getElem hlt⟩
          have hxx := q4 i x hx
          have hwl := hwc.1
          refine ar_aload_n 114 rfl d_X6_recipe_113 rfl ?_
          refine ar_getA 117 rfl d_X6_recipe_114 fl_X6_7 rfl (by assumption) (by assumption) ?_
          refine ar_bipush 119 rfl d_X6_recipe_117 rfl ?_
          refine ar_bipush 121 rfl d_X6_recipe_119 rfl ?_
          refine ar_iload_n 122 rfl d_X6_recipe_121 rfl ?_
          refine ar_imul 123 rfl d_X6_recipe_122 ?_
          refine ar_iadd 124 rfl d_X6_recipe_123 ?_
          refine ar_iload_n 125 rfl d_X6_recipe_124 rfl ?_
          refine ar_iadd 126 rfl d_X6_recipe_125 ?_
          refine ar_top (y := ((32 + 64 * l + i : Nat) : Int)) (by omega) ?_
          refine ar_aload_n 127 rfl d_X6_recipe_126 rfl ?_
          refine ar_getA 130 rfl d_X6_recipe_127 fl_X6_29 rfl (by assumption) (by assumption) ?_
          refine ar_iload_n 131 rfl d_X6_recipe_130 rfl ?_
          refine ar_ilv (y := (oK x)) 132 rfl d_X6_recipe_131 (by assumption) (by omega) (by rw [Int.toNat_natCast, t2 _ (by omega), hfo _ (by omega) (by omega)]; exact hxx.1) ?_
          refine ar_iasN (32 + 64 * l + i) 133 rfl d_X6_recipe_132 (by assumption) (by omega) (by omega) ?_
          refine ar_aload_n 134 rfl d_X6_recipe_133 rfl ?_
          refine ar_getA 137 rfl d_X6_recipe_134 fl_X6_7 rfl (by assumption) (by assumption) ?_
          refine ar_sipush 140 rfl d_X6_recipe_137 rfl ?_
          refine ar_bipush 142 rfl d_X6_recipe_140 rfl ?_
          refine ar_iload_n 143 rfl d_X6_recipe_142 rfl ?_
          refine ar_imul 144 rfl d_X6_recipe_143 ?_
          refine ar_iadd 145 rfl d_X6_recipe_144 ?_
          refine ar_iload_n 146 rfl d_X6_recipe_145 rfl ?_
          refine ar_iadd 147 rfl d_X6_recipe_146 ?_
          refine ar_top (y := ((416 + 64 * l + i : Nat) : Int)) (by omega) ?_
          refine ar_aload_n 148 rfl d_X6_recipe_147 rfl ?_
          refine ar_getA 151 rfl d_X6_recipe_148 fl_X6_32 rfl (by assumption) (by assumption) ?_
          refine ar_iload_n 152 rfl d_X6_recipe_151 rfl ?_
          refine ar_ilv (y := (oA x)) 153 rfl d_X6_recipe_152 (by assumption) (by omega) (by rw [Int.toNat_natCast, hI_off (by omega), t2 _ (by omega), hfo _ (by omega) (by omega)]; exact hxx.2) ?_
          refine ar_iasN (416 + 64 * l + i) 154 rfl d_X6_recipe_153 (by assumption) (by omega) (by omega) ?_
          refine ar_inc_3 (y := ((i + 1 : Nat) : Int)) 157 rfl d_X6_recipe_154 rfl (by intro _ h; cases h) (by omega) ?_
          refine ar_goto 105 rfl d_X6_recipe_157 ?_
          refine ih (c.length - (i + 1)) (by omega) (i + 1) _ rfl (by omega) t1 (fun b h1 => ?_) (fun j h1 h2 => ?_) (fun j y h1 h2 => ?_)
          · rw [hI_off h1, hI_off h1]
            exact t2 b h1
          · rw [hI_w, if_neg (by omega), hI_w, if_neg (by omega)]
            exact t3 j (by omega) (by omega)
          · by_cases e : j = i
            · subst e
              rw [hx] at h2
              cases h2
              refine ⟨?_, ?_⟩
              · rw [hI_w, if_neg (by omega), hI_w, if_pos ⟨rfl, rfl⟩]
              · rw [hI_w, if_pos ⟨rfl, rfl⟩]
            · have hj := (List.getElem?_eq_some_iff.mp h2).1
              rw [hI_w, if_neg (by omega), hI_w, if_neg (by omega), hI_w, if_neg (by omega), hI_w, if_neg (by omega)]
              exact t4 j y (by omega) h2
      refine ar_iconst 104 rfl d_X6_recipe_103 ?_
      refine ar_ist_3 105 rfl d_X6_recipe_104 rfl (by intro _ h; cases h) ?_
      exact loop _ 0 σ3 rfl (by omega) rfl (fun _ _ => rfl) (fun _ _ _ => rfl) (fun j x h => absurd h (by omega))
    · refine ar_bipush 20 rfl d_X6_recipe_18 rfl ?_
      refine WA.ret (some (Vi _)) ⟨d_X6_recipe_20, rfl, Or.inl rfl⟩ ?_
      rw [if_pos g15] at hQ
      exact hQ σ1 f1.fi h1
  · refine ar_if_ne 9 7 rfl rfl d_X6_recipe_4 (by omega) (fun h => absurd h (by decide)) (fun g4 => ?_)
    refine ar_iconst 8 rfl d_X6_recipe_7 ?_
    refine WA.ret (some (Vi _)) ⟨d_X6_recipe_8, rfl, Or.inl rfl⟩ ?_
    rw [if_pos g1] at hQ
    exact hQ σ FrI.rf h
end REF13
