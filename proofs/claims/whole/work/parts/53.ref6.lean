-- ===== the reference's run of a recipe =====
theorem n100_ap {dd : List (Int × Int)} {key v : Int} (h : ∀ x ∈ dd, x.2 ≠ 100) (hv : v ≠ 100) : ∀ x ∈ dd ++ [(key, v)], x.2 ≠ 100 := by
  intro z hz
  rcases List.mem_append.mp hz with e9 | e9
  · exact h z e9
  · rw [List.mem_singleton.mp e9]
    exact hv
theorem WFl_app {l : Nat} {d : List (Int × Int)} {key v : Int} (hd : WFl l d) (hk : VK l key) (hv : 0 ≤ v ∧ v ≤ 100) (hf : d.find? (fun x => x.1 == key) = none) : WFl l (d ++ [(key, v)]) := by
  refine ⟨fun x hx => ?_, ?_⟩
  · rcases List.mem_append.mp hx with e | e
    · exact hd.1 x e
    · rw [List.mem_singleton.mp e]
      exact ⟨hk, hv⟩
  · rw [List.map_append, List.nodup_append]
    refine ⟨hd.2, by simp, fun a ha b hb => ?_⟩
    obtain ⟨x, hx, rfl⟩ := List.mem_map.mp ha
    have hb : b = key := by simpa using hb
    rw [hb]
    have := List.find?_eq_none.mp hf x hx
    simpa using this
theorem runG_end {τ : Type} {lk : Int → List (Int × Int) → τ → τ × List (Int × Int) × Int} {c : Rcpe} {u : Nat} {p : List Int} {d : List (Int × Int)} {n : Int} {t : τ} : runG lk c u c.length p d n t = (t, d, n, p.headD 100) := by
  cases u with
  | zero => rfl
  | succ u =>
    rw [runG, List.getElem?_eq_none (Nat.le_refl _)]
theorem runG_skip {τ : Type} {lk : Int → List (Int × Int) → τ → τ × List (Int × Int) × Int} {c : Rcpe} {u a : Nat} {p : List Int} {d : List (Int × Int)} {n : Int} {t : τ} {x : Int × Int} (hx : c[a]? = some x) (h : x.1 = 6) (hj : a < x.2.toNat) : runG lk c (u + 1) a p d n t = runG lk c u x.2.toNat p d n t := by
  rw [runG, hx]
  simp only []
  rw [if_pos h]
  by_cases e : a + 1 < x.2.toNat
  · rw [if_pos e]
  · rw [if_neg e, show a + 1 = x.2.toNat by omega]
theorem runG_look {τ : Type} {lk : Int → List (Int × Int) → τ → τ × List (Int × Int) × Int} {c : Rcpe} {u a : Nat} {p : List Int} {d : List (Int × Int)} {n : Int} {t : τ} {x : Int × Int} (hx : c[a]? = some x) (h : x.1 = 0) (hp : p.length < 60) : runG lk c (u + 1) a p d n t = if (lk x.2 d t).2.2 = 100 then ((lk x.2 d t).1, (lk x.2 d t).2.1, n + 1, 100) else runG lk c u (a + 1) ((lk x.2 d t).2.2 :: p) (lk x.2 d t).2.1 (n + 1) (lk x.2 d t).1 := by
  rw [runG, hx]
  simp only []
  rw [if_neg (by omega), if_pos h]
  by_cases e : (lk x.2 d t).2.2 = 100
  · rw [if_pos (Or.inl e), if_pos e]
  · rw [if_neg (by omega), if_neg e]
theorem runG_num {τ : Type} {lk : Int → List (Int × Int) → τ → τ × List (Int × Int) × Int} {c : Rcpe} {u a : Nat} {p : List Int} {d : List (Int × Int)} {n : Int} {t : τ} {x : Int × Int} (hx : c[a]? = some x) (h : x.1 = 1) (hv : x.2 < 100) (hp : p.length < 60) : runG lk c (u + 1) a p d n t = runG lk c u (a + 1) (x.2 :: p) d (n + 1) t := by
  rw [runG, hx]
  simp only []
  rw [if_neg (by omega), if_neg (by omega), if_pos h, if_neg (by omega)]
theorem runG_cho {τ : Type} {lk : Int → List (Int × Int) → τ → τ × List (Int × Int) × Int} {c : Rcpe} {u a : Nat} {p : List Int} {d : List (Int × Int)} {n y : Int} {t : τ} {x : Int × Int} (hx : c[a]? = some x) (h : x.1 = 5) (hj : a < x.2.toNat) : runG lk c (u + 1) a (y :: p) d n t = runG lk c u (if y = 0 then x.2.toNat else a + 1) p d (n + 1) t := by
  rw [runG, hx]
  simp only []
  rw [if_neg (by omega), if_neg (by omega), if_neg (by omega), if_pos h]
  by_cases e : y = 0
  · rw [if_pos e, if_pos e]
    by_cases e2 : a + 1 < x.2.toNat
    · rw [if_pos e2]
    · rw [if_neg e2, show a + 1 = x.2.toNat by omega]
  · rw [if_neg e, if_neg e]
theorem runG_op {τ : Type} {lk : Int → List (Int × Int) → τ → τ × List (Int × Int) × Int} {c : Rcpe} {u a : Nat} {p : List Int} {d : List (Int × Int)} {n y w : Int} {t : τ} {x : Int × Int} (hx : c[a]? = some x) (h : 2 ≤ x.1 ∧ x.1 ≤ 4) : runG lk c (u + 1) a (y :: w :: p) d n t = runG lk c u (a + 1) (jn x.1 w y :: p) d (n + 1) t := by
  rw [runG, hx]
  simp only []
  rw [if_neg (by omega), if_neg (by omega), if_neg (by omega), if_neg (by omega)]
/-- what is still to be done when a loaf's value comes -/
def Awt (A : AF) (c : Rcpe) (S : SS) (u a : Nat) (p : List Int) (dd : List (Int × Int)) (nn : Int) (key : Int) (R : SS × List (Int × Int) × Int × Int) : Prop :=
  R = if (valA A key S).2 = 100 then ((valA A key S).1, dd ++ [(key, (valA A key S).2)], nn, 100) else runG (lkG (valA A) (fun _ t => t)) c u a ((valA A key S).2 :: p) (dd ++ [(key, (valA A key S).2)]) nn (valA A key S).1
section REF6
variable {G : GT} {d k n : Nat} {Q : Option AV → Sg → Prop}
/-- from the loop's head to the order that is done, with place and steps gone on -/
theorem bake_pre {a l a0 : Nat} {S : SS} {bb nn : Int} {c : Rcpe} {p : List Int} {dd : List (Int × Int)} {σ : Sg} {x : Int × Int} {x3 x4 x5 x6 : AV} (ha6 : a = 626 ∨ a = 627) (hl : l < 6) (hcS : S.2.2 l = c) (hc : WFc l c) (hS : Sh6 σ) (hr : Rs (hI σ a) S) (hB : Bk σ l bb a0 p dd nn) (hg29 : hI σ 625 29 = -6) (hg30 : hI σ 625 30 = -6) (hx : c[a0]? = some x)
    (hk : ∀ (σ' : Sg), FrW a l σ σ' → hI σ' a = hI σ a → hI σ' 625 = hI σ 625 → Bk σ' l bb (a0 + 1) p dd (if x.1 = 6 then nn else nn + 1) → WA G d k n mX6_bake 111 [Va 625, Va a, Vi (l : Int), Vi (oK x), Vi (oA x), x5, x6] [] σ' Q) : WA G d k n mX6_bake 0 [Va 625, Va a, Vi (l : Int), x3, x4, x5, x6] [] σ Q := by
  have ha : sk σ a = (10, 1496) := by
    rcases ha6 with e | e
    · rw [e]; exact hS.k626
    · rw [e]; exact hS.k627
  have hal := (List.getElem?_eq_some_iff.mp hx).1
  have hcl := hc.1
  have hxc := hc.2 x (List.mem_of_getElem? hx)
  have h26 : hI σ a (26 + l) = (c.length : Int) := by rw [(hr.2.1 l hl).1, hcS]
  have hord := (hr.2.1 l hl).2 a0 x (by rw [hcS]; exact hx)
  have hB0 := hB
  obtain ⟨b1, b2, b3, b4, b5, b6, b7, b8⟩ := hB
  have hok : i32 (oK x) := by
    have h1 := hxc.1
    have h2 := hxc.2.1
    unfold oK
    split
    · split <;> constructor <;> omega
    · constructor <;> omega
  have hok7 : oK x = 7 ↔ x.1 = 6 := by
    unfold oK
    split
    · split <;> constructor <;> intro h <;> omega
    · constructor <;> intro h <;> omega
  have k625 := hS.k625
  have r22 := hS.r22
  have k643 := hS.k643
  have r28 := hS.r28
  have k649 := hS.k649
  refine ar_aload_n 1 rfl d_X6_bake_0 rfl ?_
  refine ar_giv (y := (-6 : Int)) 4 rfl d_X6_bake_1 fl_X6_163 rfl (by assumption) hg29 ?_
  refine ar_bipush 6 rfl d_X6_bake_4 rfl ?_
  refine ar_icmp_ne 271 9 rfl rfl d_X6_bake_6 (by omega) (by omega) (fun h => absurd rfl h) (fun g6 => ?_)
  refine ar_aload_n 10 rfl d_X6_bake_9 rfl ?_
  refine ar_giv (y := (-6 : Int)) 13 rfl d_X6_bake_10 fl_X6_169 rfl (by assumption) hg30 ?_
  refine ar_bipush 15 rfl d_X6_bake_13 rfl ?_
  refine ar_icmp_ne 271 18 rfl rfl d_X6_bake_15 (by omega) (by omega) (fun h => absurd rfl h) (fun g15 => ?_)
  refine ar_aload_n 19 rfl d_X6_bake_18 rfl ?_
  refine ar_getA 22 rfl d_X6_bake_19 fl_X6_62 rfl (by assumption) (by assumption) ?_
  refine ar_iload_n 23 rfl d_X6_bake_22 rfl ?_
  refine ar_ilv (y := (a0 : Int)) 24 rfl d_X6_bake_23 (by assumption) (by omega) (by rw [Int.toNat_natCast]; exact b3) ?_
  refine ar_aload_n 25 rfl d_X6_bake_24 rfl ?_
  refine ar_bipush 27 rfl d_X6_bake_25 rfl ?_
  refine ar_iload_n 28 rfl d_X6_bake_27 rfl ?_
  refine ar_iadd 29 rfl d_X6_bake_28 ?_
  refine ar_top (y := ((26 + l : Nat) : Int)) (by omega) ?_
  refine ar_ilv (y := (c.length : Int)) 30 rfl d_X6_bake_29 (by assumption) (by omega) (by rw [Int.toNat_natCast]; exact h26) ?_
  refine ar_icmp_ne 45 33 rfl rfl d_X6_bake_30 (by omega) (by omega) (fun g30 => ?_) (fun h => by omega)
  refine ar_aload_n 46 rfl d_X6_bake_45 rfl ?_
  refine ar_bipush 48 rfl d_X6_bake_46 rfl ?_
  refine ar_bipush 50 rfl d_X6_bake_48 rfl ?_
  refine ar_iload_n 51 rfl d_X6_bake_50 rfl ?_
  refine ar_imul 52 rfl d_X6_bake_51 ?_
  refine ar_iadd 53 rfl d_X6_bake_52 ?_
  refine ar_aload_n 54 rfl d_X6_bake_53 rfl ?_
  refine ar_getA 57 rfl d_X6_bake_54 fl_X6_62 rfl (by assumption) (by assumption) ?_
  refine ar_iload_n 58 rfl d_X6_bake_57 rfl ?_
  refine ar_ilv (y := (a0 : Int)) 59 rfl d_X6_bake_58 (by assumption) (by omega) (by rw [Int.toNat_natCast]; exact b3) ?_
  refine ar_iadd 60 rfl d_X6_bake_59 ?_
  refine ar_top (y := ((32 + 64 * l + a0 : Nat) : Int)) (by omega) ?_
  refine ar_ilv (y := (oK x)) 61 rfl d_X6_bake_60 (by assumption) (by omega) (by rw [Int.toNat_natCast]; exact hord.1) ?_
  refine ar_ist_3 62 rfl d_X6_bake_61 rfl (by intro _ h; cases h) ?_
  refine ar_aload_n 63 rfl d_X6_bake_62 rfl ?_
  refine ar_sipush 66 rfl d_X6_bake_63 rfl ?_
  refine ar_bipush 68 rfl d_X6_bake_66 rfl ?_
  refine ar_iload_n 69 rfl d_X6_bake_68 rfl ?_
  refine ar_imul 70 rfl d_X6_bake_69 ?_
  refine ar_iadd 71 rfl d_X6_bake_70 ?_
  refine ar_aload_n 72 rfl d_X6_bake_71 rfl ?_
  refine ar_getA 75 rfl d_X6_bake_72 fl_X6_62 rfl (by assumption) (by assumption) ?_
  refine ar_iload_n 76 rfl d_X6_bake_75 rfl ?_
  refine ar_ilv (y := (a0 : Int)) 77 rfl d_X6_bake_76 (by assumption) (by omega) (by rw [Int.toNat_natCast]; exact b3) ?_
  refine ar_iadd 78 rfl d_X6_bake_77 ?_
  refine ar_top (y := ((416 + 64 * l + a0 : Nat) : Int)) (by omega) ?_
  refine ar_ilv (y := (oA x)) 79 rfl d_X6_bake_78 (by assumption) (by omega) (by rw [Int.toNat_natCast]; exact hord.2) ?_
  refine ar_ist_4 81 rfl d_X6_bake_79 rfl (by intro _ h; cases h) ?_
  refine ar_aload_n 82 rfl d_X6_bake_81 rfl ?_
  refine ar_getA 85 rfl d_X6_bake_82 fl_X6_62 rfl (by assumption) (by assumption) ?_
  refine ar_iload_n 86 rfl d_X6_bake_85 rfl ?_
  refine ar_dup2 87 rfl d_X6_bake_86 (fun _ => ⟨rfl, rfl⟩) ?_
  refine ar_ilv (y := (a0 : Int)) 88 rfl d_X6_bake_87 (by assumption) (by omega) (by rw [Int.toNat_natCast]; exact b3) ?_
  refine ar_iconst 89 rfl d_X6_bake_88 ?_
  refine ar_iadd 90 rfl d_X6_bake_89 ?_
  refine ar_top (y := ((a0 + 1 : Nat) : Int)) (by omega) ?_
  refine ar_iasN l 91 rfl d_X6_bake_90 (by assumption) (by omega) (by omega) ?_
  refine ar_aload_n 92 rfl d_X6_bake_91 rfl ?_
  refine ar_getA 95 rfl d_X6_bake_92 fl_X6_80 rfl (by assumption) (by assumption) ?_
  refine ar_iload_n 96 rfl d_X6_bake_95 rfl ?_
  refine ar_dup2 97 rfl d_X6_bake_96 (fun _ => ⟨rfl, rfl⟩) ?_
  refine ar_ilv (y := nn) 98 rfl d_X6_bake_97 (by assumption) (by omega) (by rw [Int.toNat_natCast, hI_off (by omega)]; exact b8) ?_
  refine ar_iload_n 99 rfl d_X6_bake_98 rfl ?_
  refine ar_bipush 101 rfl d_X6_bake_99 rfl ?_
  refine ar_icmp_ne 108 104 rfl rfl d_X6_bake_101 (by omega) (by omega) (fun g101 => ?_) (fun g101 => ?_)
  · refine ar_iconst 109 rfl d_X6_bake_108 ?_
    refine ar_iadd 110 rfl d_X6_bake_109 ?_
    refine ar_iasN l 111 rfl d_X6_bake_110 (by assumption) (by omega) (by omega) ?_
    have e6 : ¬ x.1 = 6 := fun h => g101 (hok7.mpr h)
    rw [if_neg e6] at hk
    refine hk _ ((FrW.wl (by omega) (by unfold str6; simp <;> omega)).tr (FrW.wl (by omega) (by unfold str6; simp <;> omega))) ?_ ?_ ((hB0.wa (a0 + 1)).wn (nn + 1))
    · rw [hI_off (by omega), hI_off (by omega)]
    · rw [hI_off (by omega), hI_off (by omega)]
  · refine ar_iconst 105 rfl d_X6_bake_104 ?_
    refine ar_goto 109 rfl d_X6_bake_105 ?_
    refine ar_iadd 110 rfl d_X6_bake_109 ?_
    refine ar_top (y := nn) (by omega) ?_
    refine ar_iasN l 111 rfl d_X6_bake_110 (by assumption) (by omega) (by omega) ?_
    have e6 : x.1 = 6 := hok7.mp g101
    rw [if_pos e6] at hk
    refine hk _ ((FrW.wl (by omega) (by unfold str6; simp <;> omega)).tr (FrW.wl (by omega) (by unfold str6; simp <;> omega))) ?_ ?_ ((hB0.wa (a0 + 1)).wn nn)
    · rw [hI_off (by omega), hI_off (by omega)]
    · rw [hI_off (by omega), hI_off (by omega)]
set_option maxHeartbeats 8000000 in
theorem sp_X6_bake {a l : Nat} {S : SS} {bb : Int} {c : Rcpe} {hs : Nat → Nat} {A : AF} {R : SS × List (Int × Int) × Int × Int} {r0 : Nat} {σ0 : Sg} (ha6 : a = 626 ∨ a = 627) (hl : l < 6) (hw : WFS S) (hcS : S.2.2 l = c) (hc : WFc l c) (hh : HtC c hs) (hdp : 5 ≤ d)
    (K1 : ∀ (σ' : Sg), FrW a l σ0 σ' → Rs (hI σ' a) (bakeS l R.1 R.2.1 R.2.2.1 R.2.2.2) → hI σ' 637 l = bb → hI σ' 625 29 = R.2.2.2 → hI σ' 625 30 = -6 → Q none σ')
    (K2 : ∀ (σ' : Sg) (a' u' ch : Nat) (p' : List Int) (dd' : List (Int × Int)) (nn' : Int), ch < l → c.length - a' < r0 → a' ≤ c.length → hs a' = p'.length + 1 → c.length ≤ u' + a' → (∀ x ∈ p', 0 ≤ x ∧ x < 100) → WFl l dd' → (∀ x ∈ dd', x.2 ≠ 100) → dd'.find? (fun x => x.1 == 20 + (ch : Int)) = none → FrW a l σ0 σ' → Rs (hI σ' a) S → Bk σ' l bb a' p' dd' nn' → hI σ' 625 29 = -6 → hI σ' 625 30 = (ch : Int) → Awt A c S u' a' p' dd' nn' (20 + (ch : Int)) R → Q none σ') :
    ∀ (r a0 : Nat) (p : List Int) (dd : List (Int × Int)) (nn : Int) (u : Nat) (σ : Sg) (x3 x4 x5 x6 : AV), c.length - a0 = r → r ≤ r0 → a0 ≤ c.length → hs a0 = p.length → c.length ≤ u + a0 → (∀ x ∈ p, 0 ≤ x ∧ x < 100) → WFl l dd → (∀ x ∈ dd, x.2 ≠ 100) → Sh6 σ → FrW a l σ0 σ → Rs (hI σ a) S → Bk σ l bb a0 p dd nn → hI σ 625 29 = -6 → hI σ 625 30 = -6 → runG (lkG (valA A) (fun _ t => t)) c u a0 p dd nn S = R → WA G d k n mX6_bake 0 [Va 625, Va a, Vi (l : Int), x3, x4, x5, x6] [] σ Q := by
  have hb := hw.bd
  have hcl := hc.1
  intro r
  induction r using Nat.strongRecOn with
  | ind r ih =>
  intro a0 p dd nn u σ x3 x4 x5 x6 hr9 hr0 hal hsp hu hpp hdd hdn hS hf hr hB hg29 hg30 hrun
  have ha : sk σ a = (10, 1496) := by
    rcases ha6 with e | e
    · rw [e]; exact hS.k626
    · rw [e]; exact hS.k627
  have hdl := WFl_len hdd
  rcases Nat.lt_or_ge a0 c.length with hlt | hge
  · obtain ⟨x, hx⟩ : ∃ x, c[a0]? = some x := ⟨_, List.getElem?_eq_getElem hlt⟩
    have hxc := hc.2 x (List.mem_of_getElem? hx)
    have hxh := hh.2.2.2 a0 x hx
    have hs38 := hh.2.2.1 a0 (by omega)
    obtain ⟨u, rfl⟩ : ∃ u', u = u' + 1 := ⟨u - 1, by omega⟩
    refine bake_pre ha6 hl hcS hc hS hr hB hg29 hg30 hx (fun σ2 hf1 hra hq5 hB2 => ?_)
    have hf2 := hf.tr hf1
    have hS2 := hS.e hf1.1
    have hr2 : Rs (hI σ2 a) S := by rw [hra]; exact hr
    have hq29 : hI σ2 625 29 = -6 := by rw [hq5]; exact hg29
    have hq30 : hI σ2 625 30 = -6 := by rw [hq5]; exact hg30
    clear hf hf1 hra hq5 hB hg29 hg30 hr hS ha
    have ha : sk σ2 a = (10, 1496) := by
      rcases ha6 with e | e
      · rw [e]; exact hS2.k626
      · rw [e]; exact hS2.k627
    have k625 := hS2.k625
    have r22 := hS2.r22
    have k643 := hS2.k643
    have r28 := hS2.r28
    have k649 := hS2.k649
    by_cases o6 : x.1 = 6
    · have eK : oK x = 7 := by unfold oK; rw [if_neg (by omega)]; omega
      have eA : oA x = ((x.2.toNat : Nat) : Int) := by unfold oA; rw [if_neg (by omega)]; omega
      rw [if_pos o6] at hB2
      rw [eK, eA]
      have hx6 := hxh.2.2.2 o6
      rw [runG_skip hx o6 hx6.1] at hrun
      refine ar_iload_n 112 rfl d_X6_bake_111 rfl ?_
      refine ar_bipush 114 rfl d_X6_bake_112 rfl ?_
      refine ar_icmp_eq 131 117 rfl rfl d_X6_bake_114 (by omega) (by omega) (fun g114 => ?_) (fun h => absurd rfl h)
      refine ar_aload_n 132 rfl d_X6_bake_131 rfl ?_
      refine ar_getA 135 rfl d_X6_bake_132 fl_X6_62 rfl (by assumption) (by assumption) ?_
      refine ar_iload_n 136 rfl d_X6_bake_135 rfl ?_
      refine ar_iload 138 rfl d_X6_bake_136 rfl ?_
      refine ar_iasN l 139 rfl d_X6_bake_138 (by assumption) (by omega) (by omega) ?_
      refine ar_goto 268 rfl d_X6_bake_139 ?_
      refine ar_goto 0 rfl d_X6_bake_268 ?_
      refine ih _ ?_ (x.2.toNat) (p) (dd) (nn) u _ _ _ _ _ rfl (by omega) (by omega) (by rw [hx6.2.2]; exact hsp) (by omega) hpp hdd hdn (hS2.e rfl) (hf2.tr (FrW.wl (by omega) (by unfold str6; simp <;> omega))) ?_ (hB2.wa _) ?_ ?_ hrun
      · omega
      · rw [hI_off (by omega)]
        exact hr2
      · rw [hI_off (by omega)]
        exact hq29
      · rw [hI_off (by omega)]
        exact hq30
    · rw [if_neg o6] at hB2
      have eK7 : oK x ≠ 7 := by
        unfold oK
        split
        · split <;> omega
        · omega
      by_cases o5 : x.1 = 5
      · have eK : oK x = 6 := by unfold oK; rw [if_neg (by omega)]; omega
        have eA : oA x = ((x.2.toNat : Nat) : Int) := by unfold oA; rw [if_neg (by omega)]; omega
        rw [eK, eA]
        have hx5 := hxh.2.2.1 o5
        obtain ⟨y, q, rfl⟩ : ∃ y q, p = y :: q := by
          cases p with
          | nil => simp at hsp; omega
          | cons y q => exact ⟨y, q, rfl⟩
        have hlq : (y :: q).length = q.length + 1 := rfl
        have hy := hpp y List.mem_cons_self
        have hpq : ∀ z ∈ q, 0 ≤ z ∧ z < 100 := fun z hz => hpp z (List.mem_cons_of_mem _ hz)
        rw [runG_cho hx o5 hx5.2.2.1] at hrun
        obtain ⟨p1, p2, p3⟩ := hB2.pop
        refine ar_iload_n 112 rfl d_X6_bake_111 rfl ?_
        refine ar_bipush 114 rfl d_X6_bake_112 rfl ?_
        refine ar_icmp_eq 131 117 rfl rfl d_X6_bake_114 (by omega) (by omega) (fun h => by omega) (fun g114 => ?_)
        refine ar_iload_n 118 rfl d_X6_bake_117 rfl ?_
        refine ar_bipush 120 rfl d_X6_bake_118 rfl ?_
        refine ar_icmp_ne 142 123 rfl rfl d_X6_bake_120 (by omega) (by omega) (fun h => absurd rfl h) (fun g120 => ?_)
        refine ar_aload_n 124 rfl d_X6_bake_123 rfl ?_
        refine ar_iload_n 125 rfl d_X6_bake_124 rfl ?_
        refine ar_callV0 (M' := mX6_pop) (As := [_]) (ls' := [Va _, Vi _]) 128 rfl d_X6_bake_125 ml_X6_189 mt_X6_pop (by assumption) rfl (Nat.le_of_ble_eq_true rfl) rfl (Nat.le_of_ble_eq_true rfl) (by omega) ?_
        refine sp_X6_pop hS2 hl p1 (by omega) p2 ?_
        refine ar_if_ne 142 131 rfl rfl d_X6_bake_128 (by omega) (fun g128 => ?_) (fun g128 => ?_)
        · rw [if_neg g128] at hrun
          refine ar_iload_n 143 rfl d_X6_bake_142 rfl ?_
          refine ar_iconst 144 rfl d_X6_bake_143 ?_
          refine ar_icmp_ne 157 147 rfl rfl d_X6_bake_144 (by omega) (by omega) (fun g144 => ?_) (fun h => by omega)
          refine ar_iload_n 158 rfl d_X6_bake_157 rfl ?_
          refine ar_if_eq 166 161 rfl rfl d_X6_bake_158 (by omega) (fun h => by omega) (fun g158 => ?_)
          refine ar_iload_n 162 rfl d_X6_bake_161 rfl ?_
          refine ar_iconst 163 rfl d_X6_bake_162 ?_
          refine ar_icmp_ne 239 166 rfl rfl d_X6_bake_163 (by omega) (by omega) (fun g163 => ?_) (fun h => by omega)
          refine ar_iload_n 240 rfl d_X6_bake_239 rfl ?_
          refine ar_bipush 242 rfl d_X6_bake_240 rfl ?_
          refine ar_icmp_eq 268 245 rfl rfl d_X6_bake_242 (by omega) (by omega) (fun g242 => ?_) (fun h => absurd rfl h)
          refine ar_goto 0 rfl d_X6_bake_268 ?_
          refine ih _ ?_ (a0 + 1) (q) (dd) (nn + 1) u _ _ _ _ _ rfl (by omega) (by omega) (by omega) (by omega) hpq hdd hdn (hS2.e rfl) (hf2.tr (FrW.wl (by omega) (by unfold str6; simp <;> omega))) ?_ p3 ?_ ?_ hrun
          · omega
          · rw [hI_off (by omega)]
            exact hr2
          · rw [hI_off (by omega)]
            exact hq29
          · rw [hI_off (by omega)]
            exact hq30
        · rw [if_pos g128] at hrun
          refine ar_aload_n 132 rfl d_X6_bake_131 rfl ?_
          refine ar_getA 135 rfl d_X6_bake_132 fl_X6_62 rfl (by assumption) (by assumption) ?_
          refine ar_iload_n 136 rfl d_X6_bake_135 rfl ?_
          refine ar_iload 138 rfl d_X6_bake_136 rfl ?_
          refine ar_iasN l 139 rfl d_X6_bake_138 (by assumption) (by omega) (by omega) ?_
          refine ar_goto 268 rfl d_X6_bake_139 ?_
          refine ar_goto 0 rfl d_X6_bake_268 ?_
          refine ih _ ?_ (x.2.toNat) (q) (dd) (nn + 1) u _ _ _ _ _ rfl (by omega) (by omega) (by omega) (by omega) hpq hdd hdn (hS2.e rfl) (hf2.tr ((FrW.wl (by omega) (by unfold str6; simp <;> omega)).tr (FrW.wl (by omega) (by unfold str6; simp <;> omega)))) ?_ (p3.wa _) ?_ ?_ hrun
          · omega
          · rw [hI_off (by omega), hI_off (by omega)]
            exact hr2
          · rw [hI_off (by omega), hI_off (by omega)]
            exact hq29
          · rw [hI_off (by omega), hI_off (by omega)]
            exact hq30
      · by_cases o1 : x.1 = 1
        · have eK : oK x = 2 := by unfold oK; rw [if_neg (by omega)]; omega
          have eA : oA x = x.2 := by unfold oA; rw [if_neg (by omega)]
          rw [eK, eA]
          have hx1 := hxh.1 (by omega)
          have hv1 := hxc.2.2.2.1 o1
          rw [runG_num hx o1 hv1.2 (by omega)] at hrun
          refine ar_iload_n 112 rfl d_X6_bake_111 rfl ?_
          refine ar_bipush 114 rfl d_X6_bake_112 rfl ?_
          refine ar_icmp_eq 131 117 rfl rfl d_X6_bake_114 (by omega) (by omega) (fun h => by omega) (fun g114 => ?_)
          refine ar_iload_n 118 rfl d_X6_bake_117 rfl ?_
          refine ar_bipush 120 rfl d_X6_bake_118 rfl ?_
          refine ar_icmp_ne 142 123 rfl rfl d_X6_bake_120 (by omega) (by omega) (fun g120 => ?_) (fun h => by omega)
          refine ar_iload_n 143 rfl d_X6_bake_142 rfl ?_
          refine ar_iconst 144 rfl d_X6_bake_143 ?_
          refine ar_icmp_ne 157 147 rfl rfl d_X6_bake_144 (by omega) (by omega) (fun h => absurd rfl h) (fun g144 => ?_)
          refine ar_aload_n 148 rfl d_X6_bake_147 rfl ?_
          refine ar_iload_n 149 rfl d_X6_bake_148 rfl ?_
          refine ar_iload 151 rfl d_X6_bake_149 rfl ?_
          refine ar_callV0 (M' := mX6_push) (As := [_, _]) (ls' := [Va _, Vi _, Vi _]) 154 rfl d_X6_bake_151 ml_X6_186 mt_X6_push (by assumption) rfl (Nat.le_of_ble_eq_true rfl) rfl (Nat.le_of_ble_eq_true rfl) (by omega) ?_
          refine sp_X6_push hS2 hl hB2.2.2.2.1 (by omega) ?_
          refine ar_goto 268 rfl d_X6_bake_154 ?_
          refine ar_goto 0 rfl d_X6_bake_268 ?_
          have hpq : ∀ z ∈ x.2 :: p, 0 ≤ z ∧ z < 100 := fun z hz => by
            rcases List.mem_cons.mp hz with e | e
            · rw [e]; exact hv1
            · exact hpp z e
          have hlq : (x.2 :: p).length = p.length + 1 := rfl
          refine ih _ ?_ (a0 + 1) (x.2 :: p) (dd) (nn + 1) u _ _ _ _ _ rfl (by omega) (by omega) (by omega) (by omega) hpq hdd hdn (hS2.e rfl) (hf2.tr ((FrW.wl (by omega) (by unfold str6; simp <;> omega)).tr (FrW.wl (by omega) (by unfold str6; simp <;> omega)))) ?_ hB2.push ?_ ?_ hrun
          · omega
          · rw [hI_off (by omega), hI_off (by omega)]
            exact hr2
          · rw [hI_off (by omega), hI_off (by omega)]
            exact hq29
          · rw [hI_off (by omega), hI_off (by omega)]
            exact hq30
        · by_cases o0 : x.1 = 0
          · have hx1 := hxh.1 (by omega)
            have hVK := hxc.2.2.1 o0
            rw [runG_look hx o0 (by omega)] at hrun
            have hdk : ∀ y ∈ dd, i32 y.1 := fun y hy => by
              rcases (hdd.1 y hy).1 with e | e <;> constructor <;> omega
            have hpush : ∀ (w : Int) (dd' : List (Int × Int)) (σ3 : Sg) (y3 y4 y5 y6 : AV), 0 ≤ w → w < 100 → WFl l dd' → (∀ x ∈ dd', x.2 ≠ 100) → FrW a l σ0 σ3 → Rs (hI σ3 a) S → hI σ3 625 29 = -6 → hI σ3 625 30 = -6 → Bk σ3 l bb (a0 + 1) (w :: p) dd' (nn + 1) → runG (lkG (valA A) (fun _ t => t)) c u (a0 + 1) (w :: p) dd' (nn + 1) S = R → WA G d k n mX6_bake 0 [Va 625, Va a, Vi (l : Int), y3, y4, y5, y6] [] σ3 Q := by
              intro w dd' σ3 y3 y4 y5 y6 hw0 hw1 hd3 hdn3 hf3 hr3 h29 h30 hB3 hrun3
              have hpq : ∀ z ∈ w :: p, 0 ≤ z ∧ z < 100 := fun z hz => by
                rcases List.mem_cons.mp hz with e | e
                · rw [e]; exact ⟨hw0, hw1⟩
                · exact hpp z e
              have hlq : (w :: p).length = p.length + 1 := rfl
              exact ih _ (by omega) (a0 + 1) (w :: p) dd' (nn + 1) u σ3 _ _ _ _ rfl (by omega) (by omega) (by omega) (by omega) hpq hd3 hdn3 ((hS2.e hf2.1.symm).e hf3.1) hf3 hr3 hB3 h29 h30 hrun3
            by_cases ok : x.2 < 20
            · have eK : oK x = 0 := by unfold oK; rw [if_pos o0, if_pos ok]
              obtain ⟨q, hq⟩ : ∃ q : Nat, x.2 = (q : Int) := ⟨x.2.toNat, by omega⟩
              have hq12 : q < 12 := by rcases hVK with e | e <;> omega
              have eA : oA x = (q : Int) := by unfold oA; rw [if_neg (by omega)]; exact hq
              rw [eK, eA]
              have hsv := sv_i hw (q : Int)
              have hva : valA A (q : Int) S = (S, sv S.1 (q : Int)) := by unfold valA; rw [if_neg (by omega)]
              refine ar_iload_n 112 rfl d_X6_bake_111 rfl ?_
              refine ar_bipush 114 rfl d_X6_bake_112 rfl ?_
              refine ar_icmp_eq 131 117 rfl rfl d_X6_bake_114 (by omega) (by omega) (fun h => by omega) (fun g114 => ?_)
              refine ar_iload_n 118 rfl d_X6_bake_117 rfl ?_
              refine ar_bipush 120 rfl d_X6_bake_118 rfl ?_
              refine ar_icmp_ne 142 123 rfl rfl d_X6_bake_120 (by omega) (by omega) (fun g120 => ?_) (fun h => by omega)
              refine ar_iload_n 143 rfl d_X6_bake_142 rfl ?_
              refine ar_iconst 144 rfl d_X6_bake_143 ?_
              refine ar_icmp_ne 157 147 rfl rfl d_X6_bake_144 (by omega) (by omega) (fun g144 => ?_) (fun h => by omega)
              refine ar_iload_n 158 rfl d_X6_bake_157 rfl ?_
              refine ar_if_eq 166 161 rfl rfl d_X6_bake_158 (by omega) (fun g158 => ?_) (fun h => absurd rfl h)
              refine ar_iload_n 167 rfl d_X6_bake_166 rfl ?_
              refine ar_iconst 168 rfl d_X6_bake_167 ?_
              refine ar_icmp_ne 179 171 rfl rfl d_X6_bake_168 (by omega) (by omega) (fun g168 => ?_) (fun h => by omega)
              refine ar_iload 181 rfl d_X6_bake_179 rfl ?_
              refine ar_ist_5 183 rfl d_X6_bake_181 rfl (by intro _ h; cases h) ?_
              refine ar_aload_n 184 rfl d_X6_bake_183 rfl ?_
              refine ar_iload_n 185 rfl d_X6_bake_184 rfl ?_
              refine ar_iload 187 rfl d_X6_bake_185 rfl ?_
              refine ar_callV0 (M' := mX6_lookOf) (As := [_, _]) (ls' := [Va _, Vi _, Vi _, Vu]) 190 rfl d_X6_bake_187 ml_X6_192 mt_X6_lookOf (by assumption) rfl (Nat.le_of_ble_eq_true rfl) rfl (Nat.le_of_ble_eq_true rfl) (by omega) ?_
              refine sp_X6_lookOf hS2 hl (by constructor <;> omega) hB2.2.2.2.2.2.1 hB2.2.2.2.2.2.2.1 (by omega) hdk (fun y hy => ?_) (fun hno => ?_)
              · have hym := hdd.1 y (List.mem_of_find?_eq_some hy)
                have hn100 := hdn y (List.mem_of_find?_eq_some hy)
                have hlk : (lkG (valA A) (fun _ t => t)) x.2 dd S = (S, dd, y.2) := by
                  unfold lkG
                  rw [hq, hy]
                rw [hlk] at hrun
                simp only [] at hrun
                refine ar_ist_6 192 rfl d_X6_bake_190 rfl (by intro _ h; cases h) ?_
                refine ar_iload 194 rfl d_X6_bake_192 rfl ?_
                refine ar_bipush 196 rfl d_X6_bake_194 rfl ?_
                refine ar_icmp_eq 209 199 rfl rfl d_X6_bake_196 (by omega) (by omega) (fun h => by omega) (fun g196 => ?_)
                refine ar_aload_n 200 rfl d_X6_bake_199 rfl ?_
                refine ar_iload_n 201 rfl d_X6_bake_200 rfl ?_
                refine ar_iload 203 rfl d_X6_bake_201 rfl ?_
                refine ar_callV0 (M' := mX6_push) (As := [_, _]) (ls' := [Va _, Vi _, Vi _]) 206 rfl d_X6_bake_203 ml_X6_186 mt_X6_push (by assumption) rfl (Nat.le_of_ble_eq_true rfl) rfl (Nat.le_of_ble_eq_true rfl) (by omega) ?_
                refine sp_X6_push hS2 hl hB2.2.2.2.1 (by omega) ?_
                refine ar_goto 236 rfl d_X6_bake_206 ?_
                refine ar_goto 268 rfl d_X6_bake_236 ?_
                refine ar_goto 0 rfl d_X6_bake_268 ?_
                rw [if_neg hn100] at hrun
                refine hpush y.2 dd _ _ _ _ _ (by omega) (by omega) hdd hdn (hf2.tr ((FrW.wl (by omega) (by unfold str6; simp <;> omega)).tr (FrW.wl (by omega) (by unfold str6; simp <;> omega)))) ?_ ?_ ?_ hB2.push hrun
                · rw [hI_off (by omega), hI_off (by omega)]
                  exact hr2
                · rw [hI_off (by omega), hI_off (by omega)]
                  exact hq29
                · rw [hI_off (by omega), hI_off (by omega)]
                  exact hq30
              · have hlk : (lkG (valA A) (fun _ t => t)) x.2 dd S = (S, dd ++ [((q : Int), sv S.1 (q : Int))], sv S.1 (q : Int)) := by
                  unfold lkG
                  rw [hq, hno]
                  simp only []
                  rw [if_pos (by omega), hva]
                rw [hlk] at hrun
                simp only [] at hrun
                have hd3 : WFl l (dd ++ [((q : Int), sv S.1 (q : Int))]) := WFl_app hdd (by rw [← hq]; exact hVK) hsv hno
                have hdl3 := WFl_len hd3
                simp only [List.length_append, List.length_cons, List.length_nil] at hdl3
                refine ar_ist_6 192 rfl d_X6_bake_190 rfl (by intro _ h; cases h) ?_
                refine ar_iload 194 rfl d_X6_bake_192 rfl ?_
                refine ar_bipush 196 rfl d_X6_bake_194 rfl ?_
                refine ar_icmp_eq 209 199 rfl rfl d_X6_bake_196 (by omega) (by omega) (fun g196 => ?_) (fun h => absurd rfl h)
                refine ar_iload_n 210 rfl d_X6_bake_209 rfl ?_
                refine ar_if_ne 230 213 rfl rfl d_X6_bake_210 (by omega) (fun h => absurd rfl h) (fun g210 => ?_)
                refine ar_aload_n 214 rfl d_X6_bake_213 rfl ?_
                refine ar_aload_n 215 rfl d_X6_bake_214 rfl ?_
                refine ar_iload_n 216 rfl d_X6_bake_215 rfl ?_
                refine ar_iload 218 rfl d_X6_bake_216 rfl ?_
                refine ar_aload_n 219 rfl d_X6_bake_218 rfl ?_
                refine ar_iload 221 rfl d_X6_bake_219 rfl ?_
                refine ar_callS0 (M' := mX6_valueOfShelf) (As := [_, _]) (ls' := [Vr _, Vi _]) 224 rfl d_X6_bake_221 ml_X6_172 mt_X6_valueOfShelf rfl (Nat.le_of_ble_eq_true rfl) rfl (Nat.le_of_ble_eq_true rfl) (by omega) ?_
                refine sp_X6_valueOfShelf ha (by omega) hq12 (hr2.1 _ (by omega)) (hr2.1 _ (by omega)) (hw.2.2.2.1 q hq12) ?_
                refine ar_callV0 (M' := mX6_take) (As := [_, _, _, _]) (ls' := [Va _, Vr _, Vi _, Vi _, Vi _]) 227 rfl d_X6_bake_224 ml_X6_196 mt_X6_take (by assumption) rfl (Nat.le_of_ble_eq_true rfl) rfl (Nat.le_of_ble_eq_true rfl) (by omega) ?_
                refine sp_X6_take hS2 ha6 hr2 hw hl (by constructor <;> omega) hB2 (by omega) (by omega) (by omega) (fun σ3 e1 e2 e3 e4 e5 e6 => ?_) (fun σ3 e1 e2 e3 e4 e5 => ?_)
                · rw [if_pos e1] at hrun
                  refine ar_goto 236 rfl d_X6_bake_227 ?_
                  refine ar_goto 268 rfl d_X6_bake_236 ?_
                  refine ar_goto 0 rfl d_X6_bake_268 ?_
                  have k3 := (hS2.e e2.1).k625
                  refine ar_aload_n 1 rfl d_X6_bake_0 rfl ?_
                  refine ar_giv (y := (100 : Int)) 4 rfl d_X6_bake_1 fl_X6_163 rfl (by assumption) e4 ?_
                  refine ar_bipush 6 rfl d_X6_bake_4 rfl ?_
                  refine ar_icmp_ne 271 9 rfl rfl d_X6_bake_6 (by omega) (by omega) (fun g6 => ?_) (fun h => by omega)
                  refine WA.ret none ⟨d_X6_bake_271, rfl, rfl⟩ ?_
                  rw [← hrun] at K1
                  exact K1 σ3 (hf2.tr e2) (by rw [← e1]; rw [← e1] at e6; exact e6) e3 e4 (e5.trans hq30)
                · rw [if_neg e1] at hrun
                  refine ar_goto 236 rfl d_X6_bake_227 ?_
                  refine ar_goto 268 rfl d_X6_bake_236 ?_
                  refine ar_goto 0 rfl d_X6_bake_268 ?_
                  exact hpush _ _ σ3 _ _ _ _ hsv.1 (by omega) hd3 (n100_ap hdn e1) (hf2.tr e2) (by rw [e3]; exact hr2) (by rw [e4]; exact hq29) (by rw [e4]; exact hq30) e5 hrun
            · have eK : oK x = 1 := by unfold oK; rw [if_pos o0, if_neg ok]
              obtain ⟨q, hq⟩ : ∃ q : Nat, x.2 = 20 + (q : Int) := ⟨(x.2 - 20).toNat, by omega⟩
              have hql : q < l := by rcases hVK with e | e <;> omega
              have eA : oA x = (q : Int) := by unfold oA; rw [if_pos ⟨o0, by omega⟩, hq]; omega
              rw [eK, eA]
              refine ar_iload_n 112 rfl d_X6_bake_111 rfl ?_
              refine ar_bipush 114 rfl d_X6_bake_112 rfl ?_
              refine ar_icmp_eq 131 117 rfl rfl d_X6_bake_114 (by omega) (by omega) (fun h => by omega) (fun g114 => ?_)
              refine ar_iload_n 118 rfl d_X6_bake_117 rfl ?_
              refine ar_bipush 120 rfl d_X6_bake_118 rfl ?_
              refine ar_icmp_ne 142 123 rfl rfl d_X6_bake_120 (by omega) (by omega) (fun g120 => ?_) (fun h => by omega)
              refine ar_iload_n 143 rfl d_X6_bake_142 rfl ?_
              refine ar_iconst 144 rfl d_X6_bake_143 ?_
              refine ar_icmp_ne 157 147 rfl rfl d_X6_bake_144 (by omega) (by omega) (fun g144 => ?_) (fun h => by omega)
              refine ar_iload_n 158 rfl d_X6_bake_157 rfl ?_
              refine ar_if_eq 166 161 rfl rfl d_X6_bake_158 (by omega) (fun h => by omega) (fun g158 => ?_)
              refine ar_iload_n 162 rfl d_X6_bake_161 rfl ?_
              refine ar_iconst 163 rfl d_X6_bake_162 ?_
              refine ar_icmp_ne 239 166 rfl rfl d_X6_bake_163 (by omega) (by omega) (fun h => absurd rfl h) (fun g163 => ?_)
              refine ar_iload_n 167 rfl d_X6_bake_166 rfl ?_
              refine ar_iconst 168 rfl d_X6_bake_167 ?_
              refine ar_icmp_ne 179 171 rfl rfl d_X6_bake_168 (by omega) (by omega) (fun h => absurd rfl h) (fun g168 => ?_)
              refine ar_bipush 173 rfl d_X6_bake_171 rfl ?_
              refine ar_iload 175 rfl d_X6_bake_173 rfl ?_
              refine ar_iadd 176 rfl d_X6_bake_175 ?_
              refine ar_goto 181 rfl d_X6_bake_176 ?_
              refine ar_ist_5 183 rfl d_X6_bake_181 rfl (by intro _ h; cases h) ?_
              refine ar_aload_n 184 rfl d_X6_bake_183 rfl ?_
              refine ar_iload_n 185 rfl d_X6_bake_184 rfl ?_
              refine ar_iload 187 rfl d_X6_bake_185 rfl ?_
              refine ar_callV0 (M' := mX6_lookOf) (As := [_, _]) (ls' := [Va _, Vi _, Vi _, Vu]) 190 rfl d_X6_bake_187 ml_X6_192 mt_X6_lookOf (by assumption) rfl (Nat.le_of_ble_eq_true rfl) rfl (Nat.le_of_ble_eq_true rfl) (by omega) ?_
              refine sp_X6_lookOf hS2 hl (by constructor <;> omega) hB2.2.2.2.2.2.1 hB2.2.2.2.2.2.2.1 (by omega) hdk (fun y hy => ?_) (fun hno => ?_)
              · have hym := hdd.1 y (List.mem_of_find?_eq_some hy)
                have hn100 := hdn y (List.mem_of_find?_eq_some hy)
                have hlk : (lkG (valA A) (fun _ t => t)) x.2 dd S = (S, dd, y.2) := by
                  unfold lkG
                  rw [hq, hy]
                rw [hlk] at hrun
                simp only [] at hrun
                refine ar_ist_6 192 rfl d_X6_bake_190 rfl (by intro _ h; cases h) ?_
                refine ar_iload 194 rfl d_X6_bake_192 rfl ?_
                refine ar_bipush 196 rfl d_X6_bake_194 rfl ?_
                refine ar_icmp_eq 209 199 rfl rfl d_X6_bake_196 (by omega) (by omega) (fun h => by omega) (fun g196 => ?_)
                refine ar_aload_n 200 rfl d_X6_bake_199 rfl ?_
                refine ar_iload_n 201 rfl d_X6_bake_200 rfl ?_
                refine ar_iload 203 rfl d_X6_bake_201 rfl ?_
                refine ar_callV0 (M' := mX6_push) (As := [_, _]) (ls' := [Va _, Vi _, Vi _]) 206 rfl d_X6_bake_203 ml_X6_186 mt_X6_push (by assumption) rfl (Nat.le_of_ble_eq_true rfl) rfl (Nat.le_of_ble_eq_true rfl) (by omega) ?_
                refine sp_X6_push hS2 hl hB2.2.2.2.1 (by omega) ?_
                refine ar_goto 236 rfl d_X6_bake_206 ?_
                refine ar_goto 268 rfl d_X6_bake_236 ?_
                refine ar_goto 0 rfl d_X6_bake_268 ?_
                rw [if_neg hn100] at hrun
                refine hpush y.2 dd _ _ _ _ _ (by omega) (by omega) hdd hdn (hf2.tr ((FrW.wl (by omega) (by unfold str6; simp <;> omega)).tr (FrW.wl (by omega) (by unfold str6; simp <;> omega)))) ?_ ?_ ?_ hB2.push hrun
                · rw [hI_off (by omega), hI_off (by omega)]
                  exact hr2
                · rw [hI_off (by omega), hI_off (by omega)]
                  exact hq29
                · rw [hI_off (by omega), hI_off (by omega)]
                  exact hq30
              · have hlk : (lkG (valA A) (fun _ t => t)) x.2 dd S = ((valA A (20 + (q : Int)) S).1, dd ++ [(20 + (q : Int), (valA A (20 + (q : Int)) S).2)], (valA A (20 + (q : Int)) S).2) := by
                  unfold lkG
                  rw [hq, hno]
                  simp only []
                  rw [if_pos (by omega)]
                rw [hlk] at hrun
                simp only [] at hrun
                refine ar_ist_6 192 rfl d_X6_bake_190 rfl (by intro _ h; cases h) ?_
                refine ar_iload 194 rfl d_X6_bake_192 rfl ?_
                refine ar_bipush 196 rfl d_X6_bake_194 rfl ?_
                refine ar_icmp_eq 209 199 rfl rfl d_X6_bake_196 (by omega) (by omega) (fun g196 => ?_) (fun h => absurd rfl h)
                refine ar_iload_n 210 rfl d_X6_bake_209 rfl ?_
                refine ar_if_ne 230 213 rfl rfl d_X6_bake_210 (by omega) (fun g210 => ?_) (fun h => by omega)
                refine ar_aload_n 231 rfl d_X6_bake_230 rfl ?_
                refine ar_iload 233 rfl d_X6_bake_231 rfl ?_
                refine ar_putI 236 rfl d_X6_bake_233 fl_X6_169 rfl rfl (by assumption) ?_
                refine ar_goto 268 rfl d_X6_bake_236 ?_
                
                refine ar_goto 0 rfl d_X6_bake_268 ?_
                refine ar_aload_n 1 rfl d_X6_bake_0 rfl ?_
                refine ar_giv (y := (-6 : Int)) 4 rfl d_X6_bake_1 fl_X6_163 rfl (by assumption) (by rw [hI_w, if_neg (by omega)]; exact hq29) ?_
                refine ar_bipush 6 rfl d_X6_bake_4 rfl ?_
                refine ar_icmp_ne 271 9 rfl rfl d_X6_bake_6 (by omega) (by omega) (fun h => absurd rfl h) (fun g6 => ?_)
                refine ar_aload_n 10 rfl d_X6_bake_9 rfl ?_
                refine ar_giv (y := (q : Int)) 13 rfl d_X6_bake_10 fl_X6_169 rfl (by assumption) (by rw [hI_w, if_pos ⟨rfl, rfl⟩]) ?_
                refine ar_bipush 15 rfl d_X6_bake_13 rfl ?_
                refine ar_icmp_ne 271 18 rfl rfl d_X6_bake_15 (by omega) (by omega) (fun g15 => ?_) (fun h => by omega)
                refine WA.ret none ⟨d_X6_bake_271, rfl, rfl⟩ ?_
                refine K2 _ (a0 + 1) u q p dd (nn + 1) hql (by omega) (by omega) (by omega) (by omega) hpp hdd hdn hno (hf2.tr (FrW.wg (by omega))) ?_ (hB2.cg (fun b i h1 h2 h3 => by rw [hI_off (by omega)])) ?_ ?_ hrun.symm
                · rw [hI_off (by omega)]
                  exact hr2
                · rw [hI_w, if_neg (by omega)]
                  exact hq29
                · rw [hI_w, if_pos ⟨rfl, rfl⟩]
          · have hop : x.1 = 2 ∨ x.1 = 3 ∨ x.1 = 4 := by omega
            have eK : oK x = x.1 + 1 := by unfold oK; rw [if_neg o0]
            rw [eK]
            have hx2 := hxh.2.1 (by omega) (by omega)
            obtain ⟨y, w, q, rfl⟩ : ∃ y w q, p = y :: w :: q := by
              rcases p with _ | ⟨y, _ | ⟨w, q⟩⟩
              · simp at hsp; omega
              · simp at hsp; omega
              · exact ⟨y, w, q, rfl⟩
            have hlq : (y :: w :: q).length = q.length + 2 := rfl
            have hlq2 : (w :: q).length = q.length + 1 := rfl
            have hy := hpp y (by simp)
            have hw9 := hpp w (by simp)
            rw [runG_op hx (by omega)] at hrun
            have hjn := jn_r (w := x.1) hw9 hy
            obtain ⟨p1, p2, p3⟩ := hB2.pop
            obtain ⟨p4, p5, p6⟩ := p3.pop
            have hpq : ∀ z ∈ jn x.1 w y :: q, 0 ≤ z ∧ z < 100 := fun z hz => by
              rcases List.mem_cons.mp hz with e | e
              · rw [e]; exact hjn
              · exact hpp z (by simp [e])
            have hlq3 : (jn x.1 w y :: q).length = q.length + 1 := rfl
            refine ar_iload_n 112 rfl d_X6_bake_111 rfl ?_
            refine ar_bipush 114 rfl d_X6_bake_112 rfl ?_
            refine ar_icmp_eq 131 117 rfl rfl d_X6_bake_114 (by omega) (by omega) (fun h => by omega) (fun g114 => ?_)
            refine ar_iload_n 118 rfl d_X6_bake_117 rfl ?_
            refine ar_bipush 120 rfl d_X6_bake_118 rfl ?_
            refine ar_icmp_ne 142 123 rfl rfl d_X6_bake_120 (by omega) (by omega) (fun g120 => ?_) (fun h => by omega)
            refine ar_iload_n 143 rfl d_X6_bake_142 rfl ?_
            refine ar_iconst 144 rfl d_X6_bake_143 ?_
            refine ar_icmp_ne 157 147 rfl rfl d_X6_bake_144 (by omega) (by omega) (fun g144 => ?_) (fun h => by omega)
            refine ar_iload_n 158 rfl d_X6_bake_157 rfl ?_
            refine ar_if_eq 166 161 rfl rfl d_X6_bake_158 (by omega) (fun h => by omega) (fun g158 => ?_)
            refine ar_iload_n 162 rfl d_X6_bake_161 rfl ?_
            refine ar_iconst 163 rfl d_X6_bake_162 ?_
            refine ar_icmp_ne 239 166 rfl rfl d_X6_bake_163 (by omega) (by omega) (fun g163 => ?_) (fun h => by omega)
            refine ar_iload_n 240 rfl d_X6_bake_239 rfl ?_
            refine ar_bipush 242 rfl d_X6_bake_240 rfl ?_
            refine ar_icmp_eq 268 245 rfl rfl d_X6_bake_242 (by omega) (by omega) (fun h => by omega) (fun g242 => ?_)
            refine ar_aload_n 246 rfl d_X6_bake_245 rfl ?_
            refine ar_iload_n 247 rfl d_X6_bake_246 rfl ?_
            refine ar_callV0 (M' := mX6_pop) (As := [_]) (ls' := [Va _, Vi _]) 250 rfl d_X6_bake_247 ml_X6_189 mt_X6_pop (by assumption) rfl (Nat.le_of_ble_eq_true rfl) rfl (Nat.le_of_ble_eq_true rfl) (by omega) ?_
            refine sp_X6_pop hS2 hl p1 (by omega) p2 ?_
            refine ar_ist_5 252 rfl d_X6_bake_250 rfl (by intro _ h; cases h) ?_
            refine ar_aload_n 253 rfl d_X6_bake_252 rfl ?_
            refine ar_iload_n 254 rfl d_X6_bake_253 rfl ?_
            refine ar_iload_n 255 rfl d_X6_bake_254 rfl ?_
            refine ar_aload_n 256 rfl d_X6_bake_255 rfl ?_
            refine ar_iload_n 257 rfl d_X6_bake_256 rfl ?_
            refine ar_callV0 (M' := mX6_pop) (As := [_]) (ls' := [Va _, Vi _]) 260 rfl d_X6_bake_257 ml_X6_189 mt_X6_pop (by assumption) rfl (Nat.le_of_ble_eq_true rfl) rfl (Nat.le_of_ble_eq_true rfl) (by omega) ?_
            refine sp_X6_pop (hS2.e rfl) hl p4 (by omega) p5 ?_
            refine ar_iload 262 rfl d_X6_bake_260 rfl ?_
            refine ar_callS0 (M' := mX6_reckon) (As := [_, _, _]) (ls' := [Vi _, Vi _, Vi _, Vu]) 265 rfl d_X6_bake_262 ml_X6_200 mt_X6_reckon rfl (Nat.le_of_ble_eq_true rfl) rfl (Nat.le_of_ble_eq_true rfl) (by omega) ?_
            refine sp_X6_reckon hop ?_
            refine ar_callV0 (M' := mX6_push) (As := [_, _]) (ls' := [Va _, Vi _, Vi _]) 268 rfl d_X6_bake_265 ml_X6_186 mt_X6_push (by assumption) rfl (Nat.le_of_ble_eq_true rfl) rfl (Nat.le_of_ble_eq_true rfl) (by omega) ?_
            refine sp_X6_push (hS2.e rfl) hl p6.2.2.2.1 (by omega) ?_
            refine ar_goto 0 rfl d_X6_bake_268 ?_
            refine ih _ ?_ (a0 + 1) (jn x.1 w y :: q) (dd) (nn + 1) u _ _ _ _ _ rfl (by omega) (by omega) (by omega) (by omega) hpq hdd hdn (hS2.e rfl) (hf2.tr ((((FrW.wl (by omega) (by unfold str6; simp <;> omega)).tr (FrW.wl (by omega) (by unfold str6; simp <;> omega))).tr (FrW.wl (by omega) (by unfold str6; simp <;> omega))).tr (FrW.wl (by omega) (by unfold str6; simp <;> omega)))) ?_ p6.push ?_ ?_ hrun
            · omega
            · rw [hI_off (by omega), hI_off (by omega), hI_off (by omega), hI_off (by omega)]
              exact hr2
            · rw [hI_off (by omega), hI_off (by omega), hI_off (by omega), hI_off (by omega)]
              exact hq29
            · rw [hI_off (by omega), hI_off (by omega), hI_off (by omega), hI_off (by omega)]
              exact hq30
  · have hae : a0 = c.length := by omega
    subst hae
    rw [runG_end] at hrun
    obtain ⟨v, rfl⟩ : ∃ v, p = [v] := by
      have h1 := hh.2.1
      rcases p with _ | ⟨y, _ | ⟨w, q⟩⟩
      · simp at hsp; omega
      · exact ⟨y, rfl⟩
      · simp at hsp; omega
    have hv := hpp v List.mem_cons_self
    have h26 : hI σ a (26 + l) = (c.length : Int) := by rw [(hr.2.1 l hl).1, hcS]
    obtain ⟨p1, p2, p3⟩ := hB.pop
    have b3 := hB.2.2.1
    have k625 := hS.k625
    have r22 := hS.r22
    have k643 := hS.k643
    have r28 := hS.r28
    have k649 := hS.k649
    refine ar_aload_n 1 rfl d_X6_bake_0 rfl ?_
    refine ar_giv (y := (-6 : Int)) 4 rfl d_X6_bake_1 fl_X6_163 rfl (by assumption) hg29 ?_
    refine ar_bipush 6 rfl d_X6_bake_4 rfl ?_
    refine ar_icmp_ne 271 9 rfl rfl d_X6_bake_6 (by omega) (by omega) (fun h => absurd rfl h) (fun g6 => ?_)
    refine ar_aload_n 10 rfl d_X6_bake_9 rfl ?_
    refine ar_giv (y := (-6 : Int)) 13 rfl d_X6_bake_10 fl_X6_169 rfl (by assumption) hg30 ?_
    refine ar_bipush 15 rfl d_X6_bake_13 rfl ?_
    refine ar_icmp_ne 271 18 rfl rfl d_X6_bake_15 (by omega) (by omega) (fun h => absurd rfl h) (fun g15 => ?_)
    refine ar_aload_n 19 rfl d_X6_bake_18 rfl ?_
    refine ar_getA 22 rfl d_X6_bake_19 fl_X6_62 rfl (by assumption) (by assumption) ?_
    refine ar_iload_n 23 rfl d_X6_bake_22 rfl ?_
    refine ar_ilv (y := (c.length : Int)) 24 rfl d_X6_bake_23 (by assumption) (by omega) (by rw [Int.toNat_natCast]; exact b3) ?_
    refine ar_aload_n 25 rfl d_X6_bake_24 rfl ?_
    refine ar_bipush 27 rfl d_X6_bake_25 rfl ?_
    refine ar_iload_n 28 rfl d_X6_bake_27 rfl ?_
    refine ar_iadd 29 rfl d_X6_bake_28 ?_
    refine ar_top (y := ((26 + l : Nat) : Int)) (by omega) ?_
    refine ar_ilv (y := (c.length : Int)) 30 rfl d_X6_bake_29 (by assumption) (by omega) (by rw [Int.toNat_natCast]; exact h26) ?_
    refine ar_icmp_ne 45 33 rfl rfl d_X6_bake_30 (by omega) (by omega) (fun h => absurd rfl h) (fun g30 => ?_)
    refine ar_aload_n 34 rfl d_X6_bake_33 rfl ?_
    refine ar_aload_n 35 rfl d_X6_bake_34 rfl ?_
    refine ar_iload_n 36 rfl d_X6_bake_35 rfl ?_
    refine ar_aload_n 37 rfl d_X6_bake_36 rfl ?_
    refine ar_iload_n 38 rfl d_X6_bake_37 rfl ?_
    refine ar_callV0 (M' := mX6_pop) (As := [_]) (ls' := [Va _, Vi _]) 41 rfl d_X6_bake_38 ml_X6_189 mt_X6_pop (by assumption) rfl (Nat.le_of_ble_eq_true rfl) rfl (Nat.le_of_ble_eq_true rfl) (by omega) ?_
    refine sp_X6_pop (m := 0) hS hl p1 (by omega) p2 ?_
    refine ar_callV0 (M' := mX6_endBaking) (As := [_, _, _]) (ls' := [Va _, Vr _, Vi _, Vi _, Vu]) 44 rfl d_X6_bake_41 ml_X6_183 mt_X6_endBaking (by assumption) rfl (Nat.le_of_ble_eq_true rfl) rfl (Nat.le_of_ble_eq_true rfl) (by omega) ?_
    refine sp_X6_endBaking (hS.e rfl) ha6 (by rw [hI_off (by omega)]; exact hr) hw hl (by constructor <;> omega) p3.2.2.2.2.2.1 p3.2.2.2.2.2.2.1 p3.2.2.2.2.2.2.2 (by omega) (by omega) (fun σ3 e1 e2 e3 e4 e5 => ?_)
    refine WA.ret none ⟨d_X6_bake_44, rfl, rfl⟩ ?_
    rw [← hrun] at K1
    refine K1 σ3 (hf.tr ((FrW.wl (by omega) (by unfold str6; simp <;> omega)).tr ⟨e1, fun b a1 a2 a3 a4 => e2 b a1 a2, fun j a1 a2 => e3 j a1, fun b i a1 a2 a3 => by rw [e2 b (by omega) (by omega)]⟩)) e5 ?_ e4 ?_
    · rw [e2 637 (by omega) (by omega)]
      exact p3.1
    · rw [e3 30 (by omega), hI_off (by omega)]
      exact hg30
end REF6
