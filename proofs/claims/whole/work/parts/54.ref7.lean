-- ===== the reference is asked =====
theorem askF_ch {l c : Nat} {S : SS} (h : c < l) : askF l (c : Int) S = askF (c + 1) (c : Int) S := by
  induction l with
  | zero => omega
  | succ l ih =>
    by_cases e : c = l
    · rw [e]
    · rw [askF, if_neg (by omega), if_pos (by omega)]
      exact ih (by omega)
theorem askF_top {c : Nat} {S : SS} : askF (c + 1) (c : Int) S = if S.2.2 c = [] then (S, 100) else askB (askF c) c S := by
  rw [askF, if_neg (by omega), if_neg (by omega)]

theorem sz_of {S : SS} (h : WFS S) (hz : S.1 815 ≤ 2147483647) : ∀ M ∈ S.2.1, i32 (mSer M - 1) := fun M hM => by
  have h1 := h.2.2.2.2.2.2.1 M hM
  have h2 := h1.2.2.2.2.1
  have h3 := h1.2.2.2.2.2.1
  constructor <;> omega
theorem xv_of {S : SS} (h : WFS S) : ∀ M ∈ S.2.1, ∀ y ∈ mLk M, i32 y.2 := fun M hM y hy => by
  have h1 := ((h.2.2.2.2.2.2.1 M hM).2.2.2.2.2.2.1 y hy).2
  constructor <;> omega
theorem run_mono {A : AF} {l : Nat} {c : Rcpe} (hl : l < 6) (hA : PA l A) (hc : WFc l c) {u a : Nat} {p : List Int} {d : List (Int × Int)} {n : Int} {S : SS} (hw : WFS S) (hd : WFl l d) (hp : ∀ x ∈ p, 0 ≤ x ∧ x < 100) : S.1 815 ≤ (runG (lkG (valA A) (fun _ t => t)) c u a p d n S).1.1 815 := by
  have h1 := run_inv (lk := (lkG (valA A) (fun _ t => t))) (c := c) (V := VK l) (P := fun d S' => WFl l d ∧ Grow S S' (cD d)) (fun key d S' hk hP => lkG_g hl hA key d S' hk hP) (fun x hx => ⟨(hc.2 x hx).2.2.1, (hc.2 x hx).2.2.2.1⟩) u a p d n S ⟨hd, (Grow.rf hw).le (Nat.zero_le _)⟩ hp
  exact h1.1.2.2.2.1
/-- a loaf's own memory keeps its looks while others are asked for -/
theorem keep_lk {S S' : SS} {w : Nat} {M : Mem} (hw : WFS S) (hg : Grow S S' w) (hM : M ∈ S.2.1) : ∀ M' ∈ S'.2.1, mSer M' = mSer M → mLk M' = mLk M := by
  intro M' hM' e
  obtain ⟨M1, h1, h2⟩ := hg.2.2.2.2.2 M' hM' (by rw [e]; exact (hw.2.2.2.2.2.2.1 M hM).2.2.2.2.2.1)
  have h3 : M1 = M := uniq_m hw h1 hM (by rw [← h2.2.2.2.1, e])
  rw [h2.2.2.2.2, h3]
section REF7
variable {G : GT} {d k n : Nat} {Q : Option AV → Sg → Prop}
theorem sp_X6_comeBack1 {a l : Nat} {ch v : Int} {σ : Sg} (hS : Sh6 σ) (hl : l < 6) (hm : hI σ 638 l = 1) (hdp : 1 ≤ d) (hk : WA G (d - 1) 0 0 mX6_compare 0 [Va 625, Va a, Vi (l : Int), Vi v, Vu] [] σ (fun v' σ' => v' = none ∧ Q none σ')) : WA G d k n mX6_comeBack 0 [Va 625, Va a, Vi (l : Int), Vi ch, Vi v] [] σ Q := by
  have k625 := hS.k625
  have r17 := hS.r17
  have k638 := hS.k638
  refine ar_aload_n 1 rfl d_X6_comeBack_0 rfl ?_
  refine ar_getA 4 rfl d_X6_comeBack_1 fl_X6_47 rfl (by assumption) (by assumption) ?_
  refine ar_iload_n 5 rfl d_X6_comeBack_4 rfl ?_
  refine ar_ilv (y := (1 : Int)) 6 rfl d_X6_comeBack_5 (by assumption) (by omega) (by rw [Int.toNat_natCast]; exact hm) ?_
  refine ar_iconst 7 rfl d_X6_comeBack_6 ?_
  refine ar_icmp_ne 21 10 rfl rfl d_X6_comeBack_7 (by omega) (by omega) (fun h => absurd rfl h) (fun g7 => ?_)
  refine ar_aload_n 11 rfl d_X6_comeBack_10 rfl ?_
  refine ar_aload_n 12 rfl d_X6_comeBack_11 rfl ?_
  refine ar_iload_n 13 rfl d_X6_comeBack_12 rfl ?_
  refine ar_iload 15 rfl d_X6_comeBack_13 rfl ?_
  refine ar_callV0 (M' := mX6_compare) (As := [_, _, _]) (ls' := [Va _, Vr _, Vi _, Vi _, Vu]) 18 rfl d_X6_comeBack_15 ml_X6_175 mt_X6_compare (by assumption) rfl (Nat.le_of_ble_eq_true rfl) rfl (Nat.le_of_ble_eq_true rfl) (by omega) ?_
  refine WA.mono hk (fun v' σ' h => ?_)
  obtain ⟨rfl, h⟩ := h
  refine ar_goto 33 rfl d_X6_comeBack_18 ?_
  refine WA.ret none ⟨d_X6_comeBack_33, rfl, rfl⟩ ?_
  exact h
theorem sp_X6_comeBack2 {a l : Nat} {ch v : Int} {σ : Sg} (hS : Sh6 σ) (hl : l < 6) (hm : hI σ 638 l = 2) (hdp : 1 ≤ d) (hk : WA G (d - 1) 0 0 mX6_take 0 [Va 625, Va a, Vi (l : Int), Vi (20 + ch), Vi v] [] σ (fun v' σ' => v' = none ∧ Q none σ')) : WA G d k n mX6_comeBack 0 [Va 625, Va a, Vi (l : Int), Vi ch, Vi v] [] σ Q := by
  have k625 := hS.k625
  have r17 := hS.r17
  have k638 := hS.k638
  refine ar_aload_n 1 rfl d_X6_comeBack_0 rfl ?_
  refine ar_getA 4 rfl d_X6_comeBack_1 fl_X6_47 rfl (by assumption) (by assumption) ?_
  refine ar_iload_n 5 rfl d_X6_comeBack_4 rfl ?_
  refine ar_ilv (y := (2 : Int)) 6 rfl d_X6_comeBack_5 (by assumption) (by omega) (by rw [Int.toNat_natCast]; exact hm) ?_
  refine ar_iconst 7 rfl d_X6_comeBack_6 ?_
  refine ar_icmp_ne 21 10 rfl rfl d_X6_comeBack_7 (by omega) (by omega) (fun g7 => ?_) (fun h => absurd h (by decide))
  refine ar_aload_n 22 rfl d_X6_comeBack_21 rfl ?_
  refine ar_aload_n 23 rfl d_X6_comeBack_22 rfl ?_
  refine ar_iload_n 24 rfl d_X6_comeBack_23 rfl ?_
  refine ar_bipush 26 rfl d_X6_comeBack_24 rfl ?_
  refine ar_iload_n 27 rfl d_X6_comeBack_26 rfl ?_
  refine ar_iadd 28 rfl d_X6_comeBack_27 ?_
  refine ar_iload 30 rfl d_X6_comeBack_28 rfl ?_
  refine ar_callV0 (M' := mX6_take) (As := [_, _, _, _]) (ls' := [Va _, Vr _, Vi _, Vi _, Vi _]) 33 rfl d_X6_comeBack_30 ml_X6_196 mt_X6_take (by assumption) rfl (Nat.le_of_ble_eq_true rfl) rfl (Nat.le_of_ble_eq_true rfl) (by omega) ?_
  refine WA.mono hk (fun v' σ' h => ?_)
  obtain ⟨rfl, h⟩ := h
  refine WA.ret none ⟨d_X6_comeBack_33, rfl, rfl⟩ ?_
  exact h
/-- a level of asking: from its head to the place where its loaf is given -/
def LvA (G : GT) (d k n a lf : Nat) (Q : Option AV → Sg → Prop) (l : Nat) : Prop := ∀ (S : SS) (σ0 σ : Sg) (bb : Int) (x4 x5 : AV), WFS S → HtS S → S.2.2 l ≠ [] → (askB (askF l) l S).1.1 815 ≤ 2147483647 → Sh6 σ → FrW a l σ0 σ → Rs (hI σ a) S → Ck σ l bb ((S.2.1.filter (isOf (l : Int))).map mSer) 0 0 → hI σ 625 29 = -6 → hI σ 625 30 = -6 →
    (∀ (σ' : Sg) (x4 x5 : AV), FrW a l σ0 σ' → Rs (hI σ' a) (askB (askF l) l S).1 → hI σ' 637 l = bb → hI σ' 625 29 = (askB (askF l) l S).2 → hI σ' 625 30 = -6 → WA G d k n mX6_askOn 139 [Va 625, Va a, Vi (lf : Int), Vi (l : Int), x4, x5] [] σ' Q) → WA G d k n mX6_askOn 34 [Va 625, Va a, Vi (lf : Int), Vi (l : Int), x4, x5] [] σ Q
theorem ask_child {a lf l ch : Nat} {S : SS} {σ : Sg} {x4 x5 : AV} (ha6 : a = 626 ∨ a = 627) (hl : l < 6) (hcl : ch < l) (IH : ∀ c, c < l → LvA G d k n a lf Q c) (hw : WFS S) (hh : HtS S) (hS : Sh6 σ) (hr : Rs (hI σ a) S) (h29 : hI σ 625 29 = -6) (h30 : hI σ 625 30 = (ch : Int)) (hz : (askF l (ch : Int) S).1.1 815 ≤ 2147483647) (hdp : 3 ≤ d)
    (KC : ∀ (σ' : Sg) (y4 y5 : AV) (Q' : Option AV → Sg → Prop), FrW a ch σ σ' → Rs (hI σ' a) (askF l (ch : Int) S).1 → hI σ' 625 29 = -6 → hI σ' 625 30 = -6 → (∀ σ'' : Sg, WA G d k n mX6_askOn 139 [Va 625, Va a, Vi (lf : Int), Vi (l : Int), y4, y5] [] σ'' Q → Q' none σ'') → WA G (d - 1) 0 0 mX6_comeBack 0 [Va 625, Va a, Vi (l : Int), Vi (ch : Int), Vi (askF l (ch : Int) S).2] [] σ' Q') : WA G d k n mX6_askOn 84 [Va 625, Va a, Vi (lf : Int), Vi (l : Int), x4, x5] [] σ Q := by
  have hb := hw.bd
  have ha : sk σ a = (10, 1496) := by
    rcases ha6 with e | e
    · rw [e]; exact hS.k626
    · rw [e]; exact hS.k627
  have h26 : hI σ a (26 + ch) = ((S.2.2 ch).length : Int) := (hr.2.1 ch (by omega)).1
  have hcb := hb.2.2 ch (by omega)
  rw [askF_ch hcl, askF_top] at hz KC
  have k625 := hS.k625
  have r17 := hS.r17
  have k638 := hS.k638
  have r16 := hS.r16
  have k637 := hS.k637
  refine ar_aload_n 85 rfl d_X6_askOn_84 rfl ?_
  refine ar_giv (y := (ch : Int)) 88 rfl d_X6_askOn_85 fl_X6_169 rfl (by assumption) h30 ?_
  refine ar_bipush 90 rfl d_X6_askOn_88 rfl ?_
  refine ar_icmp_eq 139 93 rfl rfl d_X6_askOn_90 (by omega) (by omega) (fun h => by omega) (fun g90 => ?_)
  refine ar_aload_n 94 rfl d_X6_askOn_93 rfl ?_
  refine ar_giv (y := (ch : Int)) 97 rfl d_X6_askOn_94 fl_X6_169 rfl (by assumption) h30 ?_
  refine ar_ist_4 99 rfl d_X6_askOn_97 rfl (by intro _ h; cases h) ?_
  refine ar_aload_n 100 rfl d_X6_askOn_99 rfl ?_
  refine ar_bipush 102 rfl d_X6_askOn_100 rfl ?_
  refine ar_putI 105 rfl d_X6_askOn_102 fl_X6_169 rfl rfl (by assumption) ?_
  have hS2 : Sh6 (wI σ 625 30 (-6)) := hS.e rfl
  have hf2 : FrW a ch σ (wI σ 625 30 (-6)) := FrW.wg (by omega)
  have hra : hI (wI σ 625 30 (-6)) a = hI σ a := hI_off (by omega)
  have h29 : hI (wI σ 625 30 (-6)) 625 29 = -6 := by rw [hI_w, if_neg (by omega)]; exact h29
  have h30 : hI (wI σ 625 30 (-6)) 625 30 = -6 := by rw [hI_w, if_pos ⟨rfl, rfl⟩]
  generalize wI σ 625 30 (-6) = σ2 at hS2 hf2 hra h29 h30
  have ha : sk σ2 a = (10, 1496) := by
    rcases ha6 with e | e
    · rw [e]; exact hS2.k626
    · rw [e]; exact hS2.k627
  have hr2 : Rs (hI σ2 a) S := by rw [hra]; exact hr
  have h26 : hI σ2 a (26 + ch) = ((S.2.2 ch).length : Int) := by rw [hra]; exact h26
  have k625 := hS2.k625
  have r17 := hS2.r17
  have k638 := hS2.k638
  have r16 := hS2.r16
  have k637 := hS2.k637
  refine ar_aload_n 106 rfl d_X6_askOn_105 rfl ?_
  refine ar_bipush 108 rfl d_X6_askOn_106 rfl ?_
  refine ar_iload 110 rfl d_X6_askOn_108 rfl ?_
  refine ar_iadd 111 rfl d_X6_askOn_110 ?_
  refine ar_top (y := ((26 + ch : Nat) : Int)) (by omega) ?_
  refine ar_ilv (y := ((S.2.2 ch).length : Int)) 112 rfl d_X6_askOn_111 (by assumption) (by omega) (by rw [Int.toNat_natCast]; exact h26) ?_
  refine ar_if_ne 128 115 rfl rfl d_X6_askOn_112 (by omega) (fun g112 => ?_) (fun g112 => ?_)
  · have hne : S.2.2 ch ≠ [] := fun e => by
      rw [e] at g112
      exact g112 rfl
    rw [if_neg hne] at hz KC
    refine ar_aload_n 129 rfl d_X6_askOn_128 rfl ?_
    refine ar_aload_n 130 rfl d_X6_askOn_129 rfl ?_
    refine ar_iload 132 rfl d_X6_askOn_130 rfl ?_
    refine ar_iload_n 133 rfl d_X6_askOn_132 rfl ?_
    refine ar_callV0 (M' := mX6_begin) (As := [_, _, _]) (ls' := [Va _, Vr _, Vi _, Vi _, Vu]) 136 rfl d_X6_askOn_133 ml_X6_204 mt_X6_begin (by assumption) rfl (Nat.le_of_ble_eq_true rfl) rfl (Nat.le_of_ble_eq_true rfl) (by omega) ?_
    refine sp_X6_begin hS2 ha ha6 hr2 hb (fun M hM => ?_) (by omega) (by omega) (fun σ3 e1 e2 e3 e4 => ?_)
    · have h1 := hw.2.2.2.2.2.2.1 M hM
      have h2 := h1.1
      have h3 := h1.2.1
      constructor <;> omega
    have hS3 := hS2.e e1.1
    have h29 : hI σ3 625 29 = -6 := by rw [e3]; exact h29
    have h30 : hI σ3 625 30 = -6 := by rw [e3]; exact h30
    have k625 := hS3.k625
    have r17 := hS3.r17
    have k638 := hS3.k638
    have r16 := hS3.r16
    have k637 := hS3.k637
    refine ar_iload 138 rfl d_X6_askOn_136 rfl ?_
    refine ar_ist_3 139 rfl d_X6_askOn_138 rfl (by intro _ h; cases h) ?_
    refine ar_aload_n 140 rfl d_X6_askOn_139 rfl ?_
    refine ar_giv (y := (-6 : Int)) 143 rfl d_X6_askOn_140 fl_X6_163 rfl (by assumption) h29 ?_
    refine ar_bipush 145 rfl d_X6_askOn_143 rfl ?_
    refine ar_icmp_eq 34 148 rfl rfl d_X6_askOn_145 (by omega) (by omega) (fun g145 => ?_) (fun h => absurd rfl h)
    refine IH ch hcl S σ σ3 (l : Int) _ _ hw hh hne hz hS3 (hf2.tr e1) (by rw [e2]; exact hr2) e4 h29 h30 (fun σ4 y4 y5 f1 f2 f3 f4 f5 => ?_)
    have hS4 := hS.e f1.1
    have hv4 := (askB_g (by omega : ch < 6) (askF_g ch (by omega)) hw).2
    have k625 := hS4.k625
    have r17 := hS4.r17
    have k638 := hS4.k638
    have r16 := hS4.r16
    have k637 := hS4.k637
    refine ar_aload_n 140 rfl d_X6_askOn_139 rfl ?_
    refine ar_giv (y := ((askB (askF ch) ch S).2)) 143 rfl d_X6_askOn_140 fl_X6_163 rfl (by assumption) f4 ?_
    refine ar_bipush 145 rfl d_X6_askOn_143 rfl ?_
    refine ar_icmp_eq 34 148 rfl rfl d_X6_askOn_145 (by first | omega | (constructor <;> omega)) (by first | omega | (constructor <;> omega)) (fun h => by omega) (fun g145 => ?_)
    refine ar_aload_n 149 rfl d_X6_askOn_148 rfl ?_
    refine ar_giv (y := ((askB (askF ch) ch S).2)) 152 rfl d_X6_askOn_149 fl_X6_163 rfl (by assumption) f4 ?_
    refine ar_ist_4 154 rfl d_X6_askOn_152 rfl (by intro _ h; cases h) ?_
    refine ar_iload_n 155 rfl d_X6_askOn_154 rfl ?_
    refine ar_ist_5 157 rfl d_X6_askOn_155 rfl (by intro _ h; cases h) ?_
    refine ar_aload_n 158 rfl d_X6_askOn_157 rfl ?_
    refine ar_getA 161 rfl d_X6_askOn_158 fl_X6_44 rfl (by assumption) (by assumption) ?_
    refine ar_iload_n 162 rfl d_X6_askOn_161 rfl ?_
    refine ar_ilv (y := (l : Int)) 163 rfl d_X6_askOn_162 (by assumption) (by omega) (by rw [Int.toNat_natCast]; exact f3) ?_
    refine ar_ist_3 164 rfl d_X6_askOn_163 rfl (by intro _ h; cases h) ?_
    refine ar_iload_n 165 rfl d_X6_askOn_164 rfl ?_
    refine ar_bipush 167 rfl d_X6_askOn_165 rfl ?_
    refine ar_icmp_ne 173 170 rfl rfl d_X6_askOn_167 (by omega) (by omega) (fun g167 => ?_) (fun h => by omega)
    refine ar_aload_n 174 rfl d_X6_askOn_173 rfl ?_
    refine ar_bipush 176 rfl d_X6_askOn_174 rfl ?_
    refine ar_putI 179 rfl d_X6_askOn_176 fl_X6_163 rfl rfl (by assumption) ?_
    have hS5 : Sh6 (wI σ4 625 29 (-6)) := hS4.e rfl
    have k625 := hS5.k625
    refine ar_aload_n 180 rfl d_X6_askOn_179 rfl ?_
    refine ar_aload_n 181 rfl d_X6_askOn_180 rfl ?_
    refine ar_iload_n 182 rfl d_X6_askOn_181 rfl ?_
    refine ar_iload 184 rfl d_X6_askOn_182 rfl ?_
    refine ar_iload 186 rfl d_X6_askOn_184 rfl ?_
    refine ar_callV0 (M' := mX6_comeBack) (As := [_, _, _, _]) (ls' := [Va _, Vr _, Vi _, Vi _, Vi _]) 189 rfl d_X6_askOn_186 ml_X6_213 mt_X6_comeBack (by assumption) rfl (Nat.le_of_ble_eq_true rfl) rfl (Nat.le_of_ble_eq_true rfl) (by omega) ?_
    refine KC _ (Vi (askB (askF ch) ch S).2) (Vi (ch : Int)) _ (f1.tr (FrW.wg (by omega))) ?_ ?_ ?_ (fun σ5 h5 => ?_)
    · rw [hI_off (by omega)]
      exact f2
    · rw [hI_w, if_pos ⟨rfl, rfl⟩]
    · rw [hI_w, if_neg (by omega)]
      exact f5
    refine ar_goto 139 rfl d_X6_askOn_189 ?_
    exact h5
  · have hne : S.2.2 ch = [] := List.length_eq_zero_iff.mp (by omega)
    rw [if_pos hne] at KC
    refine ar_aload_n 116 rfl d_X6_askOn_115 rfl ?_
    refine ar_aload_n 117 rfl d_X6_askOn_116 rfl ?_
    refine ar_iload_n 118 rfl d_X6_askOn_117 rfl ?_
    refine ar_iload 120 rfl d_X6_askOn_118 rfl ?_
    refine ar_bipush 122 rfl d_X6_askOn_120 rfl ?_
    refine ar_callV0 (M' := mX6_comeBack) (As := [_, _, _, _]) (ls' := [Va _, Vr _, Vi _, Vi _, Vi _]) 125 rfl d_X6_askOn_122 ml_X6_213 mt_X6_comeBack (by assumption) rfl (Nat.le_of_ble_eq_true rfl) rfl (Nat.le_of_ble_eq_true rfl) (by omega) ?_
    refine KC σ2 (Vi (ch : Int)) x5 _ hf2 hr2 h29 h30 (fun σ5 h5 => ?_)
    refine ar_goto 139 rfl d_X6_askOn_125 ?_
    exact h5
set_option maxHeartbeats 8000000 in
theorem ask_lv {a lf : Nat} (ha6 : a = 626 ∨ a = 627) (hdp : 9 ≤ d) : ∀ l, l < 6 → LvA G d k n a lf Q l := by
  intro l
  induction l using Nat.strongRecOn with
  | ind l ihl =>
  intro hl S0 σ0 σ00 bb y4 y5 hw0 hh0 hne hzF hS00 hf00 hr00 hc00 h29 h30 K
  have IH : ∀ c, c < l → LvA G d k n a lf Q c := fun c hc => ihl c hc (by omega)
  have hA : PA l (askF l) := askF_g l (by omega)
  have hI0 : IdO l ((S0.2.1.filter (isOf (l : Int))).map mSer) S0 := ⟨S0, 0, hw0, Grow.rf hw0, ids_of⟩
  have hcc := hw0.2.2.2.2.2.2.2.2 l hl
  have hids : ((S0.2.1.filter (isOf (l : Int))).map mSer).length ≤ 16 := hc00.2.2.2.2.2.2
  have hfg := fitA_g hA hw0 ((S0.2.1.filter (isOf l)).map mSer) S0 0 ids_of (Grow.rf hw0)
  unfold askB at hzF K
  generalize hZ : fitA (askF l) ((S0.2.1.filter (isOf (l : Int))).map mSer) S0 = Z at hzF K hfg
  generalize hIds : (S0.2.1.filter (isOf (l : Int))).map mSer = ids at hI0 hc00 hids hZ
  have hRR : Z.2 = none → (askR (askF l) l S0 Z.1).1.1 815 ≤ 2147483647 ∧ Z.1.1 815 ≤ (askR (askF l) l S0 Z.1).1.1 815 := by
    intro hnone
    have h1 := askR_g hl hA hw0 hfg
    rw [hnone] at hzF
    simp only [] at hzF
    have h2 := (bakeS_g (n := (askR (askF l) l S0 Z.1).2.2.1) hl h1.2.1.2.2.2.2.1 h1.1 h1.2.2).2.2.1
    exact ⟨Int.le_trans h2 hzF, h1.2.1.2.2.1⟩
  have hzZ : Z.1.1 815 ≤ 2147483647 := by
    cases e : Z.2 with
    | none =>
      have := hRR e
      omega
    | some p =>
      rw [e] at hzF
      simp only [] at hzF
      cases e2 : Z.1.2.1[p]? with
      | none =>
        rw [e2] at hzF
        exact hzF
      | some M =>
        rw [e2] at hzF
        have h1 := (useS_g (l := l) hl hfg.2.2.2.2.1 e2).2.2.1
        exact Int.le_trans h1 hzF
  -- baking
  have hBK : Z.2 = none → ∀ (r a0 : Nat) (p : List Int) (dd : List (Int × Int)) (nn : Int) (u : Nat) (S : SS) (σ : Sg) (hs : Nat → Nat) (x4 x5 : AV), HtC (S0.2.2 l) hs → (S0.2.2 l).length - a0 = r → a0 ≤ (S0.2.2 l).length → hs a0 = p.length → (S0.2.2 l).length ≤ u + a0 → (∀ x ∈ p, 0 ≤ x ∧ x < 100) → WFl l dd → (∀ x ∈ dd, x.2 ≠ 100) → WFS S → S.2.2 = S0.2.2 → Sh6 σ → FrW a l σ0 σ → Rs (hI σ a) S → Bk σ l bb a0 p dd nn → hI σ 625 29 = -6 → hI σ 625 30 = -6 → runG (lkG (valA (askF l)) (fun _ t => t)) (S0.2.2 l) u a0 p dd nn S = askR (askF l) l S0 Z.1 → WA G d k n mX6_askOn 50 [Va 625, Va a, Vi (lf : Int), Vi (l : Int), x4, x5] [] σ Q := by
    intro hnone
    have hRz := (hRR hnone).1
    rw [hnone] at K
    simp only [] at K
    generalize hRe : askR (askF l) l S0 Z.1 = R at hRz K
    intro r
    induction r using Nat.strongRecOn with
    | ind r ih =>
    intro a0 p dd nn u S σ hs x4 x5 hht hr9 hal hsp hu hpp hdd hdn hw hrec hS hf hr hB h29 h30 hrun
    have b2 := hB.2.1
    have k625 := hS.k625
    have r17 := hS.r17
    have k638 := hS.k638
    have r16 := hS.r16
    have k637 := hS.k637
    refine ar_aload_n 51 rfl d_X6_askOn_50 rfl ?_
    refine ar_getA 54 rfl d_X6_askOn_51 fl_X6_47 rfl (by assumption) (by assumption) ?_
    refine ar_iload_n 55 rfl d_X6_askOn_54 rfl ?_
    refine ar_ilv (y := (2 : Int)) 56 rfl d_X6_askOn_55 (by assumption) (by omega) (by rw [Int.toNat_natCast]; exact b2) ?_
    refine ar_iconst 57 rfl d_X6_askOn_56 ?_
    refine ar_icmp_ne 84 60 rfl rfl d_X6_askOn_57 (by omega) (by omega) (fun h => absurd rfl h) (fun g57 => ?_)
    refine ar_aload_n 61 rfl d_X6_askOn_60 rfl ?_
    refine ar_giv (y := (-6 : Int)) 64 rfl d_X6_askOn_61 fl_X6_163 rfl (by assumption) h29 ?_
    refine ar_bipush 66 rfl d_X6_askOn_64 rfl ?_
    refine ar_icmp_ne 84 69 rfl rfl d_X6_askOn_66 (by omega) (by omega) (fun h => absurd rfl h) (fun g66 => ?_)
    refine ar_aload_n 70 rfl d_X6_askOn_69 rfl ?_
    refine ar_giv (y := (-6 : Int)) 73 rfl d_X6_askOn_70 fl_X6_169 rfl (by assumption) h30 ?_
    refine ar_bipush 75 rfl d_X6_askOn_73 rfl ?_
    refine ar_icmp_ne 84 78 rfl rfl d_X6_askOn_75 (by omega) (by omega) (fun h => absurd rfl h) (fun g75 => ?_)
    refine ar_aload_n 79 rfl d_X6_askOn_78 rfl ?_
    refine ar_aload_n 80 rfl d_X6_askOn_79 rfl ?_
    refine ar_iload_n 81 rfl d_X6_askOn_80 rfl ?_
    refine ar_callV0 (M' := mX6_bake) (As := [_, _]) (ls' := [Va _, Vr _, Vi _, Vu, Vu, Vu, Vu]) 84 rfl d_X6_askOn_81 ml_X6_210 mt_X6_bake (by assumption) rfl (Nat.le_of_ble_eq_true rfl) rfl (Nat.le_of_ble_eq_true rfl) (by omega) ?_
    refine sp_X6_bake (A := askF l) (R := R) (r0 := r) (σ0 := σ0) (hs := hs) ha6 hl hw (by rw [hrec]) hcc hht (by omega) (fun σ1 f1 f2 f3 f4 f5 => ?_) (fun σ1 a1 u1 ch p1 dd1 nn1 c1 c2 c3 c4 c5 c6 c7 c7n c8 f1 f2 f3 f4 f5 f6 => ?_) r a0 p dd nn u σ _ _ _ _ hr9 (Nat.le_refl _) hal hsp hu hpp hdd hdn hS hf hr hB h29 h30 hrun
    · have hS1 := hS.e (f1.1.trans hf.1.symm)
      have k625 := hS1.k625
      have r17 := hS1.r17
      have k638 := hS1.k638
      have r16 := hS1.r16
      have k637 := hS1.k637
      refine ar_aload_n 85 rfl d_X6_askOn_84 rfl ?_
      refine ar_giv (y := (-6 : Int)) 88 rfl d_X6_askOn_85 fl_X6_169 rfl (by assumption) f5 ?_
      refine ar_bipush 90 rfl d_X6_askOn_88 rfl ?_
      refine ar_icmp_eq 139 93 rfl rfl d_X6_askOn_90 (by omega) (by omega) (fun g90 => ?_) (fun h => absurd rfl h)
      exact K σ1 _ _ f1 f2 f3 f4 f5
    · have hS1 := hS.e (f1.1.trans hf.1.symm)
      have hchA : valA (askF l) (20 + (ch : Int)) S = askF l (ch : Int) S := by
        unfold valA
        rw [if_pos (by omega), show 20 + (ch : Int) - 20 = (ch : Int) by omega]
      have hgr := hA ch S c1 hw
      have hhS : HtS S := fun j hj => by rw [hrec]; exact hh0 j hj
      unfold Awt at f6
      rw [hchA] at f6
      have hzc : (askF l (ch : Int) S).1.1 815 ≤ 2147483647 := by
        by_cases e : (askF l (ch : Int) S).2 = 100
        · rw [if_pos e] at f6
          rw [f6] at hRz
          exact hRz
        · rw [if_neg e] at f6
          have h1 := run_mono (u := u1) (a := a1) (n := nn1) hl hA hcc hgr.1.2.2.2.2.1 (WFl_app c7 (show VK l (20 + (ch : Int)) by unfold VK; omega) hgr.2 c8) (p := (askF l (ch : Int) S).2 :: p1) (fun z hz => by
            rcases List.mem_cons.mp hz with e9 | e9
            · rw [e9]; omega
            · exact c6 z e9)
          rw [← f6] at h1
          omega
      refine ask_child ha6 hl c1 IH hw hhS hS1 f2 f4 f5 hzc (by omega) (fun σ2 z4 z5 Q' g1 g2 g3 g4 g5 => ?_)
      have hS2 := hS1.e g1.1
      have hB2 := f3.cg (g1.low c1)
      have hgw := hgr.1.2.2.2.2.1
      have hf2 : FrW a l σ0 σ2 := f1.tr (g1.mono (by omega))
      have hd1 := WFl_len (WFl_app c7 (show VK l (20 + (ch : Int)) by unfold VK; omega) hgr.2 c8)
      simp only [List.length_append, List.length_cons, List.length_nil] at hd1
      refine sp_X6_comeBack2 hS2 hl hB2.2.1 (by omega) (sp_X6_take hS2 ha6 g2 hgw hl (by constructor <;> omega) hB2 (by omega) (by have := hht.2.2.1 a1 c3; omega) (by omega) (fun σ3 e1 e2 e3 e4 e5 e6 => ⟨rfl, g5 σ3 ?_⟩) (fun σ3 e1 e2 e3 e4 e5 => ⟨rfl, g5 σ3 ?_⟩))
      · rw [if_pos e1] at f6
        rw [f6] at K
        exact K σ3 _ _ (hf2.tr e2) (by rw [e1]; rw [e1] at e6; exact e6) e3 e4 (e5.trans g4)
      · rw [if_neg e1] at f6
        have hS3 := hS2.e e2.1
        have b2 := e5.2.1
        have q29 : hI σ3 625 29 = -6 := by rw [e4]; exact g3
        have q30 : hI σ3 625 30 = -6 := by rw [e4]; exact g4
        have k625 := hS3.k625
        have r17 := hS3.r17
        have k638 := hS3.k638
        have r16 := hS3.r16
        have k637 := hS3.k637
        refine ar_aload_n 140 rfl d_X6_askOn_139 rfl ?_
        refine ar_giv (y := (-6 : Int)) 143 rfl d_X6_askOn_140 fl_X6_163 rfl (by assumption) q29 ?_
        refine ar_bipush 145 rfl d_X6_askOn_143 rfl ?_
        refine ar_icmp_eq 34 148 rfl rfl d_X6_askOn_145 (by omega) (by omega) (fun g145 => ?_) (fun h => absurd rfl h)
        refine ar_aload_n 35 rfl d_X6_askOn_34 rfl ?_
        refine ar_getA 38 rfl d_X6_askOn_35 fl_X6_47 rfl (by assumption) (by assumption) ?_
        refine ar_iload_n 39 rfl d_X6_askOn_38 rfl ?_
        refine ar_ilv (y := (2 : Int)) 40 rfl d_X6_askOn_39 (by assumption) (by omega) (by rw [Int.toNat_natCast]; exact b2) ?_
        refine ar_iconst 41 rfl d_X6_askOn_40 ?_
        refine ar_icmp_ne 50 44 rfl rfl d_X6_askOn_41 (by omega) (by omega) (fun g41 => ?_) (fun h => absurd h (by decide))
        refine ih _ (by omega) a1 _ _ nn1 u1 _ σ3 hs _ _ hht rfl c3 ?_ c5 ?_ (WFl_app c7 (show VK l (20 + (ch : Int)) by unfold VK; omega) hgr.2 c8) (n100_ap c7n e1) hgw (hgr.1.2.1.trans hrec) hS3 (hf2.tr e2) (by rw [e3]; exact g2) e5 q29 q30 f6.symm
        · rw [List.length_cons]
          exact c4
        · intro z hz
          rcases List.mem_cons.mp hz with e9 | e9
          · rw [e9]; omega
          · exact c6 z e9
  have hCK : ∀ (μ na lk : Nat) (S : SS) (σ : Sg) (x4 x5 : AV), (ids.length - na) * 20 + (19 - lk) = μ → na ≤ ids.length → IdO l ids S → S.2.2 = S0.2.2 → Sh6 σ → FrW a l σ0 σ → Rs (hI σ a) S → Ck σ l bb ids na lk → hI σ 625 29 = -6 → hI σ 625 30 = -6 → Cfg (askF l) S ids na lk Z → WA G d k n mX6_askOn 34 [Va 625, Va a, Vi (lf : Int), Vi (l : Int), x4, x5] [] σ Q := by
    intro μ
    induction μ using Nat.strongRecOn with
    | ind μ ih =>
    intro na lk S σ x4 x5 hμ hna hIS hrec hS hf hr hc h29 h30 hcf
    have c2 := hc.2.1
    have hw := hIS.wf
    have hzS := Int.le_trans (hcf.mono hA hIS) hzZ
    have k625 := hS.k625
    have r17 := hS.r17
    have k638 := hS.k638
    have r16 := hS.r16
    have k637 := hS.k637
    refine ar_aload_n 35 rfl d_X6_askOn_34 rfl ?_
    refine ar_getA 38 rfl d_X6_askOn_35 fl_X6_47 rfl (by assumption) (by assumption) ?_
    refine ar_iload_n 39 rfl d_X6_askOn_38 rfl ?_
    refine ar_ilv (y := (1 : Int)) 40 rfl d_X6_askOn_39 (by assumption) (by omega) (by rw [Int.toNat_natCast]; exact c2) ?_
    refine ar_iconst 41 rfl d_X6_askOn_40 ?_
    refine ar_icmp_ne 50 44 rfl rfl d_X6_askOn_41 (by omega) (by omega) (fun h => absurd rfl h) (fun g41 => ?_)
    refine ar_aload_n 45 rfl d_X6_askOn_44 rfl ?_
    refine ar_aload_n 46 rfl d_X6_askOn_45 rfl ?_
    refine ar_iload_n 47 rfl d_X6_askOn_46 rfl ?_
    refine ar_callV0 (M' := mX6_checkMemories) (As := [_, _]) (ls' := [Va _, Vr _, Vi _, Vu, Vu]) 50 rfl d_X6_askOn_47 ml_X6_207 mt_X6_checkMemories (by assumption) rfl (Nat.le_of_ble_eq_true rfl) rfl (Nat.le_of_ble_eq_true rfl) (by omega) ?_
    refine sp_X6_checkMemories (A := askF l) (Z := Z) (σ0 := σ0) (μ0 := μ) ha6 hl hA hIS hzZ (by omega) (fun σ1 p M f1 f2 f3 f4 f5 f6 f7 f8 => ?_) (fun σ1 na1 lk1 i t M x f1 f2 f3 f4 f5 f6 f7 f8 f9 f10 f11 f12 => ?_) (fun σ1 f1 f2 f3 f4 f5 f6 => ?_) μ na lk σ _ _ hμ (Nat.le_refl _) hna hS hf hr hc h29 h30 hcf
    · have hS1 := hS.e (f3.1.trans hf.1.symm)
      have k625 := hS1.k625
      have r17 := hS1.r17
      have k638 := hS1.k638
      have r16 := hS1.r16
      have k637 := hS1.k637
      refine ar_aload_n 51 rfl d_X6_askOn_50 rfl ?_
      refine ar_getA 54 rfl d_X6_askOn_51 fl_X6_47 rfl (by assumption) (by assumption) ?_
      refine ar_iload_n 55 rfl d_X6_askOn_54 rfl ?_
      refine ar_ilv (y := (1 : Int)) 56 rfl d_X6_askOn_55 (by assumption) (by omega) (by rw [Int.toNat_natCast]; exact f6) ?_
      refine ar_iconst 57 rfl d_X6_askOn_56 ?_
      refine ar_icmp_ne 84 60 rfl rfl d_X6_askOn_57 (by omega) (by omega) (fun g57 => ?_) (fun h => absurd h (by decide))
      refine ar_aload_n 85 rfl d_X6_askOn_84 rfl ?_
      refine ar_giv (y := (-6 : Int)) 88 rfl d_X6_askOn_85 fl_X6_169 rfl (by assumption) f8 ?_
      refine ar_bipush 90 rfl d_X6_askOn_88 rfl ?_
      refine ar_icmp_eq 139 93 rfl rfl d_X6_askOn_90 (by omega) (by omega) (fun g90 => ?_) (fun h => absurd rfl h)
      rw [f1] at K
      simp only [] at K
      rw [f2] at K
      exact K σ1 _ _ f3 f4 f5 f7 f8
    · have hS1 := hS.e (f8.1.trans hf.1.symm)
      obtain ⟨ch, hch⟩ : ∃ ch : Nat, x.1 = 20 + (ch : Int) := ⟨(x.1 - 20).toNat, by omega⟩
      have hii := (drop_ge f2).1
      have hWl := hIS.lk f3 (by rw [f4]; exact List.mem_of_getElem? hii)
      have hxl := (hWl.1 x (List.mem_of_getElem? f5)).1
      have hcl : ch < l := by rcases hxl with e | e <;> omega
      have hchA : valA (askF l) x.1 S = askF l (ch : Int) S := by
        unfold valA
        rw [if_pos (by omega), show x.1 - 20 = (ch : Int) by omega]
      have hgr := hA ch S hcl hw
      have hhS : HtS S := fun j hj => by rw [hrec]; exact hh0 j hj
      have hkl := keep_lk hw hgr.1 f3
      have hnx := Cfg.next (S' := (askF l (ch : Int) S).1) (v := (askF l (ch : Int) S).2) f2 f5 f7 hchA (fun M' a1 a2 => hkl M' a1 (by rw [a2, f4]))
      have hIS2 := hIS.go hgr.1
      have hzc : (askF l (ch : Int) S).1.1 815 ≤ 2147483647 := by
        by_cases e : hasS (askF l (ch : Int) S).1.2.1 i = true ∧ x.2 = (askF l (ch : Int) S).2
        · exact Int.le_trans ((hnx.1 e).mono hA hIS2) hzZ
        · exact Int.le_trans ((hnx.2 e).mono hA hIS2) hzZ
      have hgw := hgr.1.2.2.2.2.1
      have hlk1 : lk1 < 18 := by
        have h1 := (List.getElem?_eq_some_iff.mp f5).1
        have h2 := WFl_len hWl
        omega
      have hna1 : na1 < ids.length := (List.getElem?_eq_some_iff.mp hii).1
      have hi32 : i32 (i - 1) := by
        have h1 := sz_of hw hzS M f3
        rw [f4] at h1
        exact h1
      have k625 := hS1.k625
      have r17 := hS1.r17
      have k638 := hS1.k638
      have c38 := f10.2.1
      refine ar_aload_n 51 rfl d_X6_askOn_50 rfl ?_
      refine ar_getA 54 rfl d_X6_askOn_51 fl_X6_47 rfl (by assumption) (by assumption) ?_
      refine ar_iload_n 55 rfl d_X6_askOn_54 rfl ?_
      refine ar_ilv (y := (1 : Int)) 56 rfl d_X6_askOn_55 (by assumption) (by omega) (by rw [Int.toNat_natCast]; exact c38) ?_
      refine ar_iconst 57 rfl d_X6_askOn_56 ?_
      refine ar_icmp_ne 84 60 rfl rfl d_X6_askOn_57 (by omega) (by omega) (fun g57 => ?_) (fun h => absurd h (by decide))
      refine ask_child ha6 hl hcl IH hw hhS hS1 f9 f11 (by rw [f12]; omega) hzc (by omega) (fun σ2 z4 z5 Q' g1 g2 g3 g4 g5 => ?_)
      have hS2 := hS1.e g1.1
      have hC2 := f10.cg (g1.low hcl)
      have hf2 : FrW a l σ0 σ2 := f8.tr (g1.mono (by omega))
      have ha : sk σ2 a = (10, 1496) := by
        rcases ha6 with e | e
        · rw [e]; exact hS2.k626
        · rw [e]; exact hS2.k627
      refine sp_X6_comeBack1 hS2 hl hC2.2.1 (by omega) (sp_X6_compare (x := x) (i := i) hS2 ha g2 hgw.bd (sz_of hgw hzc) (by constructor <;> omega) (xv_of hgw) hl hC2 hii hi32 (fun M' a1 a2 => by rw [hkl M' a1 (by rw [a2, f4])]; exact f5) (by omega) (fun e => ⟨rfl, g5 _ ?_⟩) (fun e => ⟨rfl, g5 _ ?_⟩))
      · have hC3 := hC2.w (lk1 + 1)
        have hS3 : Sh6 (wI σ2 642 l ((lk1 + 1 : Nat) : Int)) := hS2.e rfl
        have q29 : hI (wI σ2 642 l ((lk1 + 1 : Nat) : Int)) 625 29 = -6 := by rw [hI_off (by omega)]; exact g3
        have q30 : hI (wI σ2 642 l ((lk1 + 1 : Nat) : Int)) 625 30 = -6 := by rw [hI_off (by omega)]; exact g4
        have k625 := hS3.k625
        refine ar_aload_n 140 rfl d_X6_askOn_139 rfl ?_
        refine ar_giv (y := (-6 : Int)) 143 rfl d_X6_askOn_140 fl_X6_163 rfl (by assumption) q29 ?_
        refine ar_bipush 145 rfl d_X6_askOn_143 rfl ?_
        refine ar_icmp_eq 34 148 rfl rfl d_X6_askOn_145 (by omega) (by omega) (fun g145 => ?_) (fun h => absurd rfl h)
        refine ih _ ?_ na1 (lk1 + 1) _ _ _ _ rfl (by omega) hIS2 (hgr.1.2.1.trans hrec) hS3 (hf2.tr (FrW.wl (by omega) (by unfold str6; simp <;> omega))) (by rw [hI_off (by omega)]; exact g2) hC3 q29 q30 (hnx.1 e)
        omega
      · have hC3 := hC2.nx
        have hS3 : Sh6 (wI (wI σ2 641 l ((na1 + 1 : Nat) : Int)) 642 l 0) := hS2.e rfl
        have q29 : hI (wI (wI σ2 641 l ((na1 + 1 : Nat) : Int)) 642 l 0) 625 29 = -6 := by rw [hI_off (by omega), hI_off (by omega)]; exact g3
        have q30 : hI (wI (wI σ2 641 l ((na1 + 1 : Nat) : Int)) 642 l 0) 625 30 = -6 := by rw [hI_off (by omega), hI_off (by omega)]; exact g4
        have k625 := hS3.k625
        refine ar_aload_n 140 rfl d_X6_askOn_139 rfl ?_
        refine ar_giv (y := (-6 : Int)) 143 rfl d_X6_askOn_140 fl_X6_163 rfl (by assumption) q29 ?_
        refine ar_bipush 145 rfl d_X6_askOn_143 rfl ?_
        refine ar_icmp_eq 34 148 rfl rfl d_X6_askOn_145 (by omega) (by omega) (fun g145 => ?_) (fun h => absurd rfl h)
        refine ih _ ?_ (na1 + 1) 0 _ _ _ _ rfl (by omega) hIS2 (hgr.1.2.1.trans hrec) hS3 (hf2.tr ((FrW.wl (by omega) (by unfold str6; simp <;> omega)).tr (FrW.wl (by omega) (by unfold str6; simp <;> omega)))) (by rw [hI_off (by omega), hI_off (by omega)]; exact g2) hC3 q29 q30 (hnx.2 e)
        omega
    · have hnone : Z.2 = none := by rw [f1]
      rcases hh0 l hl with e | ⟨hs, hht⟩
      · exact absurd e hne
      refine hBK hnone _ 0 [] [] 0 (S0.2.2 l).length S σ1 hs _ _ hht rfl (by omega) hht.1 (by omega) (fun x hx => by cases hx) ⟨fun x hx => (by cases hx), List.nodup_nil⟩ (fun x hx => by cases hx) hw hrec (hS.e (f2.1.trans hf.1.symm)) f2 f3 f4 f5 f6 ?_
      rw [f1]
      rfl
  exact hCK _ 0 0 S0 σ00 _ _ rfl (by omega) hI0 rfl hS00 hf00 hr00 hc00 h29 h30 (Or.inl ⟨rfl, by rw [List.drop_zero]; exact hZ⟩)
theorem sp_X6_askOn {a l : Nat} {S : SS} {σ : Sg} (ha6 : a = 626 ∨ a = 627) (hS : Sh6 σ) (hr : Rs (hI σ a) S) (hw : WFS S) (hh : HtS S) (hl : l < 6) (hz : S.1 815 + 1889568 ≤ 2147483647) (hdp : 10 ≤ d) (hQ : ∀ σ', FrW a l σ σ' → Rs (hI σ' a) (askF 6 (l : Int) S).1 → Q (some (Vi (askF 6 (l : Int) S).2)) σ') : WA G d k n mX6_askOn 0 [Va 625, Va a, Vi (l : Int), Vu, Vu, Vu] [] σ Q := by
  have hb := hw.bd
  have ha : sk σ a = (10, 1496) := by
    rcases ha6 with e | e
    · rw [e]; exact hS.k626
    · rw [e]; exact hS.k627
  have h26 : hI σ a (26 + l) = ((S.2.2 l).length : Int) := (hr.2.1 l hl).1
  have hcb := hb.2.2 l hl
  rw [askF_ch hl, askF_top] at hQ
  have k625 := hS.k625
  have r17 := hS.r17
  have k638 := hS.k638
  have r16 := hS.r16
  have k637 := hS.k637
  refine ar_iload_n 1 rfl d_X6_askOn_0 rfl ?_
  refine ar_ist_3 2 rfl d_X6_askOn_1 rfl (by intro _ h; cases h) ?_
  refine ar_aload_n 3 rfl d_X6_askOn_2 rfl ?_
  refine ar_bipush 5 rfl d_X6_askOn_3 rfl ?_
  refine ar_iload_n 6 rfl d_X6_askOn_5 rfl ?_
  refine ar_iadd 7 rfl d_X6_askOn_6 ?_
  refine ar_top (y := ((26 + l : Nat) : Int)) (by omega) ?_
  refine ar_ilv (y := ((S.2.2 l).length : Int)) 8 rfl d_X6_askOn_7 (by assumption) (by omega) (by rw [Int.toNat_natCast]; exact h26) ?_
  refine ar_if_ne 14 11 rfl rfl d_X6_askOn_8 (by omega) (fun g8 => ?_) (fun g8 => ?_)
  · have hne : S.2.2 l ≠ [] := fun e => by
      rw [e] at g8
      exact g8 rfl
    rw [if_neg hne] at hQ
    have hv4 := askB_g hl (askF_g l (by omega)) hw
    have hzF : (askB (askF l) l S).1.1 815 ≤ 2147483647 := by
      have h1 := hv4.1.2.2.2.1
      have hpw : 18 ^ l ≤ 1889568 := Nat.le_trans (Nat.pow_le_pow_right (by decide) (show l ≤ 5 by omega)) (by decide)
      omega
    refine ar_aload_n 15 rfl d_X6_askOn_14 rfl ?_
    refine ar_aload_n 16 rfl d_X6_askOn_15 rfl ?_
    refine ar_iload_n 17 rfl d_X6_askOn_16 rfl ?_
    refine ar_bipush 19 rfl d_X6_askOn_17 rfl ?_
    refine ar_callV0 (M' := mX6_begin) (As := [_, _, _]) (ls' := [Va _, Vr _, Vi _, Vi _, Vu]) 22 rfl d_X6_askOn_19 ml_X6_204 mt_X6_begin (by assumption) rfl (Nat.le_of_ble_eq_true rfl) rfl (Nat.le_of_ble_eq_true rfl) (by omega) ?_
    refine sp_X6_begin hS ha ha6 hr hb (fun M hM => ?_) hl (by omega) (fun σ3 e1 e2 e3 e4 => ?_)
    · have h1 := hw.2.2.2.2.2.2.1 M hM
      have h2 := h1.1
      have h3 := h1.2.1
      constructor <;> omega
    have hS3 := hS.e e1.1
    have k625 := hS3.k625
    have r17 := hS3.r17
    have k638 := hS3.k638
    have r16 := hS3.r16
    have k637 := hS3.k637
    refine ar_aload_n 23 rfl d_X6_askOn_22 rfl ?_
    refine ar_bipush 25 rfl d_X6_askOn_23 rfl ?_
    refine ar_putI 28 rfl d_X6_askOn_25 fl_X6_163 rfl rfl (by assumption) ?_
    refine ar_aload_n 29 rfl d_X6_askOn_28 rfl ?_
    refine ar_bipush 31 rfl d_X6_askOn_29 rfl ?_
    refine ar_putI 34 rfl d_X6_askOn_31 fl_X6_169 rfl rfl (by assumption) ?_
    have hS4 : Sh6 (wI (wI σ3 625 29 (-6)) 625 30 (-6)) := hS3.e rfl
    refine ask_lv ha6 (by omega) l hl S σ _ (-6) _ _ hw hh hne hzF hS4 (e1.tr ((FrW.wg (by omega)).tr (FrW.wg (by omega)))) (by rw [hI_off (by omega), hI_off (by omega), e2]; exact hr) (e4.cg (fun b i a1 a2 a3 => by rw [hI_off (by omega), hI_off (by omega)])) (by rw [hI_w, if_neg (by omega), hI_w, if_pos ⟨rfl, rfl⟩]) (by rw [hI_w, if_pos ⟨rfl, rfl⟩]) (fun σ4 y4 y5 f1 f2 f3 f4 f5 => ?_)
    have hS5 := hS.e f1.1
    have k625 := hS5.k625
    have r17 := hS5.r17
    have k638 := hS5.k638
    have r16 := hS5.r16
    have k637 := hS5.k637
    refine ar_aload_n 140 rfl d_X6_askOn_139 rfl ?_
    refine ar_giv (y := ((askB (askF l) l S).2)) 143 rfl d_X6_askOn_140 fl_X6_163 rfl (by assumption) f4 ?_
    refine ar_bipush 145 rfl d_X6_askOn_143 rfl ?_
    refine ar_icmp_eq 34 148 rfl rfl d_X6_askOn_145 (by first | omega | (constructor <;> omega)) (by first | omega | (constructor <;> omega)) (fun h => by omega) (fun g145 => ?_)
    refine ar_aload_n 149 rfl d_X6_askOn_148 rfl ?_
    refine ar_giv (y := ((askB (askF l) l S).2)) 152 rfl d_X6_askOn_149 fl_X6_163 rfl (by assumption) f4 ?_
    refine ar_ist_4 154 rfl d_X6_askOn_152 rfl (by intro _ h; cases h) ?_
    refine ar_iload_n 155 rfl d_X6_askOn_154 rfl ?_
    refine ar_ist_5 157 rfl d_X6_askOn_155 rfl (by intro _ h; cases h) ?_
    refine ar_aload_n 158 rfl d_X6_askOn_157 rfl ?_
    refine ar_getA 161 rfl d_X6_askOn_158 fl_X6_44 rfl (by assumption) (by assumption) ?_
    refine ar_iload_n 162 rfl d_X6_askOn_161 rfl ?_
    refine ar_ilv (y := (-6 : Int)) 163 rfl d_X6_askOn_162 (by assumption) (by omega) (by rw [Int.toNat_natCast]; exact f3) ?_
    refine ar_ist_3 164 rfl d_X6_askOn_163 rfl (by intro _ h; cases h) ?_
    refine ar_iload_n 165 rfl d_X6_askOn_164 rfl ?_
    refine ar_bipush 167 rfl d_X6_askOn_165 rfl ?_
    refine ar_icmp_ne 173 170 rfl rfl d_X6_askOn_167 (by omega) (by omega) (fun h => absurd rfl h) (fun g167 => ?_)
    refine ar_iload 172 rfl d_X6_askOn_170 rfl ?_
    refine WA.ret (some (Vi _)) ⟨d_X6_askOn_172, rfl, Or.inl rfl⟩ ?_
    exact hQ σ4 f1 f2
  · have hne : S.2.2 l = [] := List.length_eq_zero_iff.mp (by omega)
    rw [if_pos hne] at hQ
    refine ar_bipush 13 rfl d_X6_askOn_11 rfl ?_
    refine WA.ret (some (Vi _)) ⟨d_X6_askOn_13, rfl, Or.inl rfl⟩ ?_
    exact hQ σ FrW.rf hr
end REF7
