-- ===== the reference goes through a loaf's memories =====
/-- behind looks d of the memory i, with the names t to come -/
def rM (A : AF) (i : Int) (t : List Int) (d : List (Int × Int)) (S : SS) : SS × Option Nat := if (okA A i d S).2 = true then ((okA A i d S).1, plS (okA A i d S).1.2.1 i) else fitA A t (okA A i d S).1
theorem rM_nil {A : AF} {i : Int} {t : List Int} {S : SS} : rM A i t [] S = (S, plS S.2.1 i) := if_pos rfl
theorem rM_cons {A : AF} {i : Int} {t : List Int} {x : Int × Int} {d : List (Int × Int)} {S : SS} : rM A i t (x :: d) S = if hasS (valA A x.1 S).1.2.1 i = true ∧ x.2 = (valA A x.1 S).2 then rM A i t d (valA A x.1 S).1 else fitA A t (valA A x.1 S).1 := by
  unfold rM
  rw [okA]
  by_cases e : hasS (valA A x.1 S).1.2.1 i = true ∧ x.2 = (valA A x.1 S).2
  · rw [if_pos e, if_pos e]
  · rw [if_neg e, if_neg e, if_neg (by simp)]
theorem fitA_s {A : AF} {i : Int} {t : List Int} {S : SS} {M : Mem} (h : S.2.1.find? (fun M => mSer M == i) = some M) : fitA A (i :: t) S = rM A i t (mLk M) S := by
  rw [fitA, h]
  rfl
theorem fitA_n {A : AF} {i : Int} {t : List Int} {S : SS} (h : S.2.1.find? (fun M => mSer M == i) = none) : fitA A (i :: t) S = fitA A t S := by
  rw [fitA, h]
/-- the names are those of memories of loaf l that there were -/
def IdO (l : Nat) (ids : List Int) (S : SS) : Prop := ∃ (S0 : SS) (w : Nat), WFS S0 ∧ Grow S0 S w ∧ ∀ i ∈ ids, ∃ M0 ∈ S0.2.1, mSer M0 = i ∧ mLoaf M0 = (l : Int)
theorem IdO.wf {l : Nat} {ids : List Int} {S : SS} (h : IdO l ids S) : WFS S := by
  obtain ⟨S0, w, h0, hg, h1⟩ := h
  exact hg.2.2.2.2.1
theorem IdO.loaf {l : Nat} {ids : List Int} {S : SS} {M : Mem} (h : IdO l ids S) (hM : M ∈ S.2.1) (hi : mSer M ∈ ids) : mLoaf M = (l : Int) := by
  obtain ⟨S0, w, h0, hg, h1⟩ := h
  exact old_of h0 hg hM rfl (h1 _ hi)
theorem IdO.go {l w : Nat} {ids : List Int} {S S' : SS} (h : IdO l ids S) (h2 : Grow S S' w) : IdO l ids S' := by
  obtain ⟨S0, w0, h0, hg, h1⟩ := h
  exact ⟨S0, w0 + w, h0, hg.tr h2, h1⟩
theorem IdO.lk {l : Nat} {ids : List Int} {S : SS} {M : Mem} (h : IdO l ids S) (hM : M ∈ S.2.1) (hi : mSer M ∈ ids) : WFl l (mLk M) := by
  have h1 := (h.wf.2.2.2.2.2.2.1 M hM).2.2.2.2.2.2
  rw [h.loaf hM hi, Int.toNat_natCast] at h1
  exact h1
theorem fitA_mono {A : AF} {l : Nat} (hA : PA l A) : ∀ (ids : List Int) (S : SS), IdO l ids S → S.1 815 ≤ (fitA A ids S).1.1 815
  | [], S, _ => Int.le_refl _
  | i :: t, S, h => by
    have ht : ∀ S' w, Grow S S' w → IdO l t S' := fun S' w hg => by
      obtain ⟨S0, w0, h0, hg0, h1⟩ := h.go hg
      exact ⟨S0, w0, h0, hg0, fun j hj => h1 j (List.mem_cons_of_mem _ hj)⟩
    cases hf : S.2.1.find? (fun M => mSer M == i) with
    | none =>
      rw [fitA_n hf]
      exact fitA_mono hA t S (ht S 0 (Grow.rf h.wf))
    | some M =>
      have hMm := List.mem_of_find?_eq_some hf
      have hMs : mSer M = i := by simpa using List.find?_some hf
      have hW := h.lk hMm (by rw [hMs]; exact List.mem_cons_self)
      have h1 := okA_g (i := i) hA (mLk M) S (fun x hx => (hW.1 x hx).1) h.wf
      rw [fitA_s hf]
      unfold rM
      split
      · exact h1.2.2.1
      · exact Int.le_trans h1.2.2.1 (fitA_mono hA t _ (ht _ _ h1))
theorem rM_mono {A : AF} {l : Nat} {i : Int} {t : List Int} {d : List (Int × Int)} {S : SS} (hA : PA l A) (h : IdO l t S) (hd : ∀ x ∈ d, VK l x.1) : S.1 815 ≤ (rM A i t d S).1.1 815 := by
  have h1 := okA_g (i := i) hA d S hd h.wf
  unfold rM
  split
  · exact h1.2.2.1
  · exact Int.le_trans h1.2.2.1 (fitA_mono hA t _ (h.go h1))
/-- where the reference stands, and what comes of it -/
def Cfg (A : AF) (S : SS) (ids : List Int) (na lk : Nat) (Z : SS × Option Nat) : Prop := (lk = 0 ∧ fitA A (ids.drop na) S = Z) ∨ ∃ (i : Int) (t : List Int) (M : Mem), ids.drop na = i :: t ∧ M ∈ S.2.1 ∧ mSer M = i ∧ lk ≤ (mLk M).length ∧ rM A i t ((mLk M).drop lk) S = Z
theorem IdO.drop {l na : Nat} {ids : List Int} {S : SS} (h : IdO l ids S) : IdO l (ids.drop na) S := by
  obtain ⟨S0, w0, h0, hg0, h1⟩ := h
  exact ⟨S0, w0, h0, hg0, fun j hj => h1 j (List.mem_of_mem_drop hj)⟩
theorem IdO.tl {l : Nat} {i : Int} {t : List Int} {S : SS} (h : IdO l (i :: t) S) : IdO l t S := h.drop (na := 1)
theorem Cfg.mono {A : AF} {S : SS} {ids : List Int} {na lk l : Nat} {Z : SS × Option Nat} (h : Cfg A S ids na lk Z) (hA : PA l A) (hi : IdO l ids S) : S.1 815 ≤ Z.1.1 815 := by
  rcases h with ⟨_, h⟩ | ⟨i, t, M, h1, h2, h3, h4, h5⟩
  · rw [← h]
    exact fitA_mono hA _ S hi.drop
  · have hd := hi.drop (na := na)
    rw [h1] at hd
    rw [← h5]
    have hW := hd.lk h2 (by rw [h3]; exact List.mem_cons_self)
    exact rM_mono hA hd.tl (fun x hx => (hW.1 x (List.mem_of_mem_drop hx)).1)
theorem uniq_m {S : SS} {M M' : Mem} (h : WFS S) (h1 : M ∈ S.2.1) (h2 : M' ∈ S.2.1) (e : mSer M = mSer M') : M = M' := by
  obtain ⟨i, hi⟩ := List.getElem?_of_mem h1
  obtain ⟨j, hj⟩ := List.getElem?_of_mem h2
  have := nd_at h.2.2.2.2.2.2.2.1 hi hj e
  subst this
  rw [hi] at hj
  exact Option.some.inj hj
/-- at a memory that there is -/
theorem Cfg.mid {A : AF} {S : SS} {ids t : List Int} {na lk : Nat} {i : Int} {M : Mem} {Z : SS × Option Nat} (h : Cfg A S ids na lk Z) (hw : WFS S) (hd : ids.drop na = i :: t) (hM : M ∈ S.2.1) (hs : mSer M = i) (hf : S.2.1.find? (fun M => mSer M == i) = some M) : lk ≤ (mLk M).length ∧ rM A i t ((mLk M).drop lk) S = Z := by
  rcases h with ⟨h1, h2⟩ | ⟨i', t', M', h1, h2, h3, h4, h5⟩
  · subst h1
    rw [hd, fitA_s hf] at h2
    exact ⟨Nat.zero_le _, by rw [List.drop_zero]; exact h2⟩
  · rw [hd] at h1
    cases h1
    have := uniq_m hw hM h2 (hs.trans h3.symm)
    subst this
    exact ⟨h4, h5⟩
theorem Cfg.no {A : AF} {S : SS} {ids t : List Int} {na lk : Nat} {i : Int} {Z : SS × Option Nat} (h : Cfg A S ids na lk Z) (hd : ids.drop na = i :: t) (hf : ∀ M ∈ S.2.1, mSer M ≠ i) : Cfg A S ids (na + 1) 0 Z := by
  rcases h with ⟨h1, h2⟩ | ⟨i', t', M', h1, h2, h3, h4, h5⟩
  · rw [hd, fitA_n (plS_none hf).2] at h2
    refine Or.inl ⟨rfl, ?_⟩
    rw [← List.drop_drop, hd]
    exact h2
  · rw [hd] at h1
    cases h1
    exact absurd h3 (hf M' h2)
theorem drop_ge {α : Type} {L t : List α} {na : Nat} {i : α} (hd : L.drop na = i :: t) : L[na]? = some i ∧ L.drop (na + 1) = t := by
  refine ⟨?_, ?_⟩
  · have := congrArg (fun x => x[0]?) hd
    simpa [List.getElem?_drop] using this
  · rw [← List.drop_drop, hd]
    rfl
theorem ge_drop {α : Type} {L : List α} {na : Nat} {i : α} (h : L[na]? = some i) : L.drop na = i :: L.drop (na + 1) := by
  have h1 := List.getElem?_eq_some_iff.mp h
  rw [List.drop_eq_getElem_cons h1.1, h1.2]
/-- behind a look -/
theorem Cfg.next {A : AF} {S S' : SS} {ids t : List Int} {na lk : Nat} {i v : Int} {M : Mem} {x : Int × Int} {Z : SS × Option Nat} (hd : ids.drop na = i :: t) (hx : (mLk M)[lk]? = some x) (h : rM A i t ((mLk M).drop lk) S = Z) (hv : valA A x.1 S = (S', v)) (hM' : ∀ M' ∈ S'.2.1, mSer M' = i → mLk M' = mLk M) :
    ((hasS S'.2.1 i = true ∧ x.2 = v) → Cfg A S' ids na (lk + 1) Z) ∧ (¬ (hasS S'.2.1 i = true ∧ x.2 = v) → Cfg A S' ids (na + 1) 0 Z) := by
  rw [ge_drop hx, rM_cons, hv] at h
  simp only [] at h
  refine ⟨fun e => ?_, fun e => ?_⟩
  · rw [if_pos e] at h
    obtain ⟨M', h1, h2⟩ := hasS_iff.mp e.1
    have h3 := hM' M' h1 h2
    refine Or.inr ⟨i, t, M', hd, h1, h2, ?_, ?_⟩
    · rw [h3]
      exact (List.getElem?_eq_some_iff.mp hx).1
    · rw [h3]
      exact h
  · rw [if_neg e] at h
    refine Or.inl ⟨rfl, ?_⟩
    rw [(drop_ge hd).2]
    exact h
theorem Ck.w {σ : Sg} {l : Nat} {bb : Int} {ids : List Int} {na lk : Nat} (h : Ck σ l bb ids na lk) (v : Nat) : Ck (wI σ 642 l (v : Int)) l bb ids na v := by
  obtain ⟨h1, h2, h3, h4, h5, h6, h7⟩ := h
  refine ⟨?_, ?_, ?_, fun j x hx => ?_, ?_, ?_, h7⟩
  · rw [hI_off (by omega)]; exact h1
  · rw [hI_off (by omega)]; exact h2
  · rw [hI_off (by omega)]; exact h3
  · rw [hI_off (by omega)]; exact h4 j x hx
  · rw [hI_off (by omega)]; exact h5
  · rw [hI_w, if_pos ⟨rfl, rfl⟩]
theorem Ck.nx {σ : Sg} {l : Nat} {bb : Int} {ids : List Int} {na lk : Nat} (h : Ck σ l bb ids na lk) : Ck (wI (wI σ 641 l ((na + 1 : Nat) : Int)) 642 l 0) l bb ids (na + 1) 0 := by
  obtain ⟨h1, h2, h3, h4, h5, h6, h7⟩ := h
  refine ⟨?_, ?_, ?_, fun j x hx => ?_, ?_, ?_, h7⟩
  · rw [hI_off (by omega), hI_off (by omega)]; exact h1
  · rw [hI_off (by omega), hI_off (by omega)]; exact h2
  · rw [hI_off (by omega), hI_off (by omega)]; exact h3
  · rw [hI_off (by omega), hI_off (by omega)]; exact h4 j x hx
  · rw [hI_off (by omega), hI_w, if_pos ⟨rfl, rfl⟩]
  · rw [hI_w, if_pos ⟨rfl, rfl⟩]
    rfl
section REF4
variable {G : GT} {d k n : Nat} {Q : Option AV → Sg → Prop}
theorem sp_X6_checkMemories {a l μ0 : Nat} {S : SS} {bb : Int} {ids : List Int} {A : AF} {Z : SS × Option Nat} {σ0 : Sg} (ha6 : a = 626 ∨ a = 627) (hl : l < 6) (hA : PA l A) (hI9 : IdO l ids S) (hz : Z.1.1 815 ≤ 2147483647) (hdp : 4 ≤ d)
    (K1 : ∀ (σ' : Sg) (p : Nat) (M : Mem), Z = (S, some p) → S.2.1[p]? = some M → FrW a l σ0 σ' → Rs (hI σ' a) (useS l p M S) → hI σ' 637 l = bb → hI σ' 638 l = 1 → hI σ' 625 29 = mRes M → hI σ' 625 30 = -6 → Q none σ')
    (K2 : ∀ (σ' : Sg) (na lk : Nat) (i : Int) (t : List Int) (M : Mem) (x : Int × Int), (ids.length - na) * 20 + (19 - lk) ≤ μ0 → ids.drop na = i :: t → M ∈ S.2.1 → mSer M = i → (mLk M)[lk]? = some x → 20 ≤ x.1 → rM A i t ((mLk M).drop lk) S = Z → FrW a l σ0 σ' → Rs (hI σ' a) S → Ck σ' l bb ids na lk → hI σ' 625 29 = -6 → hI σ' 625 30 = x.1 - 20 → Q none σ')
    (K3 : ∀ (σ' : Sg), Z = (S, none) → FrW a l σ0 σ' → Rs (hI σ' a) S → Bk σ' l bb 0 [] [] 0 → hI σ' 625 29 = -6 → hI σ' 625 30 = -6 → Q none σ') :
    ∀ (μ na lk : Nat) (σ : Sg) (x3 x4 : AV), (ids.length - na) * 20 + (19 - lk) = μ → μ ≤ μ0 → na ≤ ids.length → Sh6 σ → FrW a l σ0 σ → Rs (hI σ a) S → Ck σ l bb ids na lk → hI σ 625 29 = -6 → hI σ 625 30 = -6 → Cfg A S ids na lk Z → WA G d k n mX6_checkMemories 0 [Va 625, Va a, Vi (l : Int), x3, x4] [] σ Q := by
  have hw := hI9.wf
  have hb := hw.bd
  have hb1 := hb.1
  intro μ
  induction μ using Nat.strongRecOn with
  | ind μ ih =>
  intro na lk σ x3 x4 hμ hμ0 hnal hS hf hr hc hg29 hg30 hcf
  have hz1 := Int.le_trans (hcf.mono hA hI9) hz
  have hsz : ∀ M ∈ S.2.1, i32 (mSer M - 1) := fun M hM => by
    have h1 := hw.2.2.2.2.2.2.1 M hM
    have h2 := h1.2.2.2.2.1
    have h3 := h1.2.2.2.2.2.1
    constructor <;> omega
  have hxv : ∀ M ∈ S.2.1, ∀ y ∈ mLk M, i32 y.2 := fun M hM y hy => by
    have h1 := ((hw.2.2.2.2.2.2.1 M hM).2.2.2.2.2.2.1 y hy).2
    constructor <;> omega
  have hc0 := hc
  obtain ⟨c1, c2, c3, c4, c5, c6, c7⟩ := hc
  have ha : sk σ a = (10, 1496) := by
    rcases ha6 with e | e
    · rw [e]; exact hS.k626
    · rw [e]; exact hS.k627
  have haa : a ≠ 636 ∧ a ≠ 625 := by omega
  have hlk6 : lk ≤ 17 := by
    rcases hcf with ⟨h1, h2⟩ | ⟨i', t', M', h1, h2, h3, h4, h5⟩
    · omega
    · have := hb.2.1 M' h2
      omega
  have k625 := hS.k625
  have r20 := hS.r20
  have k641 := hS.k641
  have r19 := hS.r19
  have k640 := hS.k640
  have r18 := hS.r18
  have k639 := hS.k639
  have r21 := hS.r21
  have k642 := hS.k642
  have r17 := hS.r17
  have k638 := hS.k638
  have r22 := hS.r22
  have k643 := hS.k643
  have r24 := hS.r24
  have k645 := hS.k645
  have r27 := hS.r27
  have k648 := hS.k648
  have r28 := hS.r28
  have k649 := hS.k649
  refine ar_aload_n 1 rfl d_X6_checkMemories_0 rfl ?_
  refine ar_getA 4 rfl d_X6_checkMemories_1 fl_X6_56 rfl (by assumption) (by assumption) ?_
  refine ar_iload_n 5 rfl d_X6_checkMemories_4 rfl ?_
  refine ar_ilv (y := (na : Int)) 6 rfl d_X6_checkMemories_5 (by assumption) (by omega) (by rw [Int.toNat_natCast]; exact c5) ?_
  refine ar_aload_n 7 rfl d_X6_checkMemories_6 rfl ?_
  refine ar_getA 10 rfl d_X6_checkMemories_7 fl_X6_53 rfl (by assumption) (by assumption) ?_
  refine ar_iload_n 11 rfl d_X6_checkMemories_10 rfl ?_
  refine ar_ilv (y := (ids.length : Int)) 12 rfl d_X6_checkMemories_11 (by assumption) (by omega) (by rw [Int.toNat_natCast]; exact c3) ?_
  refine ar_icmp_ge 136 15 rfl rfl d_X6_checkMemories_12 (by omega) (by omega) (fun g12 => ?_) (fun g12 => ?_)
  · refine ar_aload_n 137 rfl d_X6_checkMemories_136 rfl ?_
    refine ar_getA 140 rfl d_X6_checkMemories_137 fl_X6_47 rfl (by assumption) (by assumption) ?_
    refine ar_iload_n 141 rfl d_X6_checkMemories_140 rfl ?_
    refine ar_iconst 142 rfl d_X6_checkMemories_141 ?_
    refine ar_iast 143 rfl d_X6_checkMemories_142 (by assumption) (by omega) ?_
    refine ar_aload_n 144 rfl d_X6_checkMemories_143 rfl ?_
    refine ar_getA 147 rfl d_X6_checkMemories_144 fl_X6_62 rfl (by assumption) (by assumption) ?_
    refine ar_iload_n 148 rfl d_X6_checkMemories_147 rfl ?_
    refine ar_iconst 149 rfl d_X6_checkMemories_148 ?_
    refine ar_iast 150 rfl d_X6_checkMemories_149 (by assumption) (by omega) ?_
    refine ar_aload_n 151 rfl d_X6_checkMemories_150 rfl ?_
    refine ar_getA 154 rfl d_X6_checkMemories_151 fl_X6_68 rfl (by assumption) (by assumption) ?_
    refine ar_iload_n 155 rfl d_X6_checkMemories_154 rfl ?_
    refine ar_iconst 156 rfl d_X6_checkMemories_155 ?_
    refine ar_iast 157 rfl d_X6_checkMemories_156 (by assumption) (by omega) ?_
    refine ar_aload_n 158 rfl d_X6_checkMemories_157 rfl ?_
    refine ar_getA 161 rfl d_X6_checkMemories_158 fl_X6_77 rfl (by assumption) (by assumption) ?_
    refine ar_iload_n 162 rfl d_X6_checkMemories_161 rfl ?_
    refine ar_iconst 163 rfl d_X6_checkMemories_162 ?_
    refine ar_iast 164 rfl d_X6_checkMemories_163 (by assumption) (by omega) ?_
    refine ar_aload_n 165 rfl d_X6_checkMemories_164 rfl ?_
    refine ar_getA 168 rfl d_X6_checkMemories_165 fl_X6_80 rfl (by assumption) (by assumption) ?_
    refine ar_iload_n 169 rfl d_X6_checkMemories_168 rfl ?_
    refine ar_iconst 170 rfl d_X6_checkMemories_169 ?_
    refine ar_iast 171 rfl d_X6_checkMemories_170 (by assumption) (by omega) ?_
    refine WA.ret none ⟨d_X6_checkMemories_171, rfl, rfl⟩ ?_
    have hnil : ids.drop na = [] := List.drop_eq_nil_of_le (by omega)
    have hZ : Z = (S, none) := by
      rcases hcf with ⟨h1, h2⟩ | ⟨i', t', M', h1, h2, h3, h4, h5⟩
      · rw [hnil] at h2
        exact h2.symm
      · rw [hnil] at h1
        cases h1
    refine K3 _ hZ (hf.tr ((((FrW.wl (by omega) (by unfold str6; simp <;> omega)).tr (FrW.wl (by omega) (by unfold str6; simp <;> omega))).tr (FrW.wl (by omega) (by unfold str6; simp <;> omega))).tr ((FrW.wl (by omega) (by unfold str6; simp <;> omega)).tr (FrW.wl (by omega) (by unfold str6; simp <;> omega))))) ?_ ⟨?_, ?_, ?_, ?_, fun i x h => (by simp at h), ?_, fun i x h => (by simp at h), ?_⟩ ?_ ?_
    · rw [hI_off (by omega), hI_off (by omega), hI_off (by omega), hI_off (by omega), hI_off (by omega)]
      exact hr
    · rw [hI_off (by omega), hI_off (by omega), hI_off (by omega), hI_off (by omega), hI_off (by omega)]
      exact c1
    · rw [hI_off (by omega), hI_off (by omega), hI_off (by omega), hI_off (by omega), hI_w, if_pos ⟨rfl, rfl⟩]
    · rw [hI_off (by omega), hI_off (by omega), hI_off (by omega), hI_w, if_pos ⟨rfl, rfl⟩]
      rfl
    · rw [hI_off (by omega), hI_off (by omega), hI_w, if_pos ⟨rfl, rfl⟩]
      rfl
    · rw [hI_off (by omega), hI_w, if_pos ⟨rfl, rfl⟩]
      rfl
    · rw [hI_w, if_pos ⟨rfl, rfl⟩]
    · rw [hI_off (by omega), hI_off (by omega), hI_off (by omega), hI_off (by omega), hI_off (by omega)]
      exact hg29
    · rw [hI_off (by omega), hI_off (by omega), hI_off (by omega), hI_off (by omega), hI_off (by omega)]
      exact hg30
  · have hlt : na < ids.length := by omega
    obtain ⟨i, hi⟩ : ∃ i, ids[na]? = some i := ⟨_, List.getElem?_eq_getElem hlt⟩
    have hd := ge_drop hi
    have hnm := c4 na i hi
    have him : i ∈ ids := List.mem_of_getElem? hi
    have hii : i32 (i - 1) := by
      obtain ⟨S0, w0, h0, hg0, h1⟩ := hI9
      obtain ⟨M0, hM0, e0, -⟩ := h1 i him
      have h2 := h0.2.2.2.2.2.2.1 M0 hM0
      have h3 := h2.2.2.2.2.1
      have h4 := h2.2.2.2.2.2.1
      have h5 := hg0.2.2.1
      constructor <;> omega
    refine ar_aload_n 16 rfl d_X6_checkMemories_15 rfl ?_
    refine ar_aload_n 17 rfl d_X6_checkMemories_16 rfl ?_
    refine ar_getA 20 rfl d_X6_checkMemories_17 fl_X6_50 rfl (by assumption) (by assumption) ?_
    refine ar_bipush 22 rfl d_X6_checkMemories_20 rfl ?_
    refine ar_iload_n 23 rfl d_X6_checkMemories_22 rfl ?_
    refine ar_imul 24 rfl d_X6_checkMemories_23 ?_
    refine ar_aload_n 25 rfl d_X6_checkMemories_24 rfl ?_
    refine ar_getA 28 rfl d_X6_checkMemories_25 fl_X6_56 rfl (by assumption) (by assumption) ?_
    refine ar_iload_n 29 rfl d_X6_checkMemories_28 rfl ?_
    refine ar_ilv (y := (na : Int)) 30 rfl d_X6_checkMemories_29 (by assumption) (by omega) (by rw [Int.toNat_natCast]; exact c5) ?_
    refine ar_iadd 31 rfl d_X6_checkMemories_30 ?_
    refine ar_top (y := ((16 * l + na : Nat) : Int)) (by omega) ?_
    refine ar_ilv (y := (i - 1)) 32 rfl d_X6_checkMemories_31 (by assumption) (by omega) (by rw [Int.toNat_natCast]; exact hnm) ?_
    refine ar_callS0 (M' := mX6_memoryNamed) (As := [_, _]) (ls' := [Vr _, Vi _, Vu]) 35 rfl d_X6_checkMemories_32 ml_X6_155 mt_X6_memoryNamed rfl (Nat.le_of_ble_eq_true rfl) rfl (Nat.le_of_ble_eq_true rfl) (by omega) ?_
    refine sp_X6_memoryNamed ha hr hb hii hsz (by omega) (fun p M hM hMs hj => ?_) (fun hno => ?_)
    · have hMi : mSer M = i := by omega
      have hMm := List.mem_of_getElem? hM
      have hp := (List.getElem?_eq_some_iff.mp hM).1
      have hpf := plS_some hM hMi (fun j M' h1 h2 => by have := hj j M' h1 h2; omega)
      obtain ⟨hlk, hrm⟩ := hcf.mid hw hd hMm hMi hpf.2
      have hmm := hr.2.2.2.2.2 p M hM
      have hb2 := hb.2.1 M hMm
      have hLk := hI9.lk hMm (by rw [hMi]; exact him)
      refine ar_ist_3 36 rfl d_X6_checkMemories_35 rfl (by intro _ h; cases h) ?_
      refine ar_iload_n 37 rfl d_X6_checkMemories_36 rfl ?_
      refine ar_bipush 39 rfl d_X6_checkMemories_37 rfl ?_
      refine ar_icmp_ne 50 42 rfl rfl d_X6_checkMemories_39 (by omega) (by omega) (fun g39 => ?_) (fun h => by omega)
      refine ar_aload_n 51 rfl d_X6_checkMemories_50 rfl ?_
      refine ar_getA 54 rfl d_X6_checkMemories_51 fl_X6_59 rfl (by assumption) (by assumption) ?_
      refine ar_iload_n 55 rfl d_X6_checkMemories_54 rfl ?_
      refine ar_ilv (y := (lk : Int)) 56 rfl d_X6_checkMemories_55 (by assumption) (by omega) (by rw [Int.toNat_natCast]; exact c6) ?_
      refine ar_aload_n 57 rfl d_X6_checkMemories_56 rfl ?_
      refine ar_iload_n 58 rfl d_X6_checkMemories_57 rfl ?_
      refine ar_callS0 (M' := mX6_memoryAt) (As := [_]) (ls' := [Vi _]) 61 rfl d_X6_checkMemories_58 ml_X6_147 mt_X6_memoryAt rfl (Nat.le_of_ble_eq_true rfl) rfl (Nat.le_of_ble_eq_true rfl) (by omega) ?_
      refine sp_X6_memoryAt (by omega) ?_
      refine ar_iconst 62 rfl d_X6_checkMemories_61 ?_
      refine ar_iadd 63 rfl d_X6_checkMemories_62 ?_
      refine ar_top (y := ((816 + 40 * p + 3 : Nat) : Int)) (by omega) ?_
      refine ar_ilv (y := ((mLk M).length : Int)) 64 rfl d_X6_checkMemories_63 (by assumption) (by omega) (by rw [Int.toNat_natCast]; exact hmm.2.2.2.1) ?_
      refine ar_icmp_ne 86 67 rfl rfl d_X6_checkMemories_64 (by omega) (by omega) (fun g64 => ?_) (fun g64 => ?_)
      · have hlt2 : lk < (mLk M).length := by omega
        obtain ⟨x, hx⟩ : ∃ x, (mLk M)[lk]? = some x := ⟨_, List.getElem?_eq_getElem hlt2⟩
        have hxm := (hmm.2.2.2.2.2.2 lk x hx).1
        have hxk := (hLk.1 x (List.mem_of_getElem? hx)).1
        have hxi : i32 x.1 := by
          rcases hxk with e | e <;> constructor <;> omega
        refine ar_aload_n 87 rfl d_X6_checkMemories_86 rfl ?_
        refine ar_iload_n 88 rfl d_X6_checkMemories_87 rfl ?_
        refine ar_callS0 (M' := mX6_memoryAt) (As := [_]) (ls' := [Vi _]) 91 rfl d_X6_checkMemories_88 ml_X6_147 mt_X6_memoryAt rfl (Nat.le_of_ble_eq_true rfl) rfl (Nat.le_of_ble_eq_true rfl) (by omega) ?_
        refine sp_X6_memoryAt (by omega) ?_
        refine ar_bipush 93 rfl d_X6_checkMemories_91 rfl ?_
        refine ar_iadd 94 rfl d_X6_checkMemories_93 ?_
        refine ar_aload_n 95 rfl d_X6_checkMemories_94 rfl ?_
        refine ar_getA 98 rfl d_X6_checkMemories_95 fl_X6_59 rfl (by assumption) (by assumption) ?_
        refine ar_iload_n 99 rfl d_X6_checkMemories_98 rfl ?_
        refine ar_ilv (y := (lk : Int)) 100 rfl d_X6_checkMemories_99 (by assumption) (by omega) (by rw [Int.toNat_natCast]; exact c6) ?_
        refine ar_iadd 101 rfl d_X6_checkMemories_100 ?_
        refine ar_top (y := ((816 + 40 * p + 6 + lk : Nat) : Int)) (by omega) ?_
        refine ar_ilv (y := x.1) 102 rfl d_X6_checkMemories_101 (by assumption) (by omega) (by rw [Int.toNat_natCast]; exact hxm) ?_
        refine ar_ist_4 104 rfl d_X6_checkMemories_102 rfl (by intro _ h; cases h) ?_
        refine ar_iload 106 rfl d_X6_checkMemories_104 rfl ?_
        refine ar_bipush 108 rfl d_X6_checkMemories_106 rfl ?_
        refine ar_icmp_lt 121 111 rfl rfl d_X6_checkMemories_108 (by omega) (by omega) (fun g108 => ?_) (fun g108 => ?_)
        · obtain ⟨q, hq⟩ : ∃ q : Nat, x.1 = (q : Int) := ⟨x.1.toNat, by rcases hxk with e | e <;> omega⟩
          have hq12 : q < 12 := by rcases hxk with e | e <;> omega
          rw [hq]
          have hsv := sv_i hw (q : Int)
          have hval : valA A x.1 S = (S, sv S.1 (q : Int)) := by
            unfold valA
            rw [if_neg (by omega), hq]
          have hnx := Cfg.next hd hx hrm hval (fun M' h1 h2 => by rw [uniq_m hw h1 hMm (h2.trans hMi.symm)])
          refine ar_aload_n 122 rfl d_X6_checkMemories_121 rfl ?_
          refine ar_aload_n 123 rfl d_X6_checkMemories_122 rfl ?_
          refine ar_iload_n 124 rfl d_X6_checkMemories_123 rfl ?_
          refine ar_aload_n 125 rfl d_X6_checkMemories_124 rfl ?_
          refine ar_iload 127 rfl d_X6_checkMemories_125 rfl ?_
          refine ar_callS0 (M' := mX6_valueOfShelf) (As := [_, _]) (ls' := [Vr _, Vi _]) 130 rfl d_X6_checkMemories_127 ml_X6_172 mt_X6_valueOfShelf rfl (Nat.le_of_ble_eq_true rfl) rfl (Nat.le_of_ble_eq_true rfl) (by omega) ?_
          refine sp_X6_valueOfShelf ha (by omega) hq12 (hr.1 _ (by omega)) (hr.1 _ (by omega)) (hw.2.2.2.1 q hq12) ?_
          refine ar_callV0 (M' := mX6_compare) (As := [_, _, _]) (ls' := [Va _, Vr _, Vi _, Vi _, Vu]) 133 rfl d_X6_checkMemories_130 ml_X6_175 mt_X6_compare (by assumption) rfl (Nat.le_of_ble_eq_true rfl) rfl (Nat.le_of_ble_eq_true rfl) (by omega) ?_
          refine sp_X6_compare (x := x) hS ha hr hb hsz (by constructor <;> omega) hxv hl hc0 hi hii (fun M' h1 h2 => by rw [uniq_m hw h1 hMm (h2.trans hMi.symm)]; exact hx) (by omega) (fun e => ?_) (fun e => ?_)
          · refine ar_goto 0 rfl d_X6_checkMemories_133 ?_
            refine ih _ ?_ na (lk + 1) _ _ _ rfl (by omega) (by omega) (hS.e rfl) (hf.tr (FrW.wl (by omega) (by unfold str6; simp <;> omega))) ?_ (hc0.w (lk + 1)) ?_ ?_ (hnx.1 e)
            · omega
            · rw [hI_off (by omega)]
              exact hr
            · rw [hI_off (by omega)]
              exact hg29
            · rw [hI_off (by omega)]
              exact hg30
          · refine ar_goto 0 rfl d_X6_checkMemories_133 ?_
            refine ih _ ?_ (na + 1) 0 _ _ _ rfl (by omega) (by omega) (hS.e rfl) (hf.tr ((FrW.wl (by omega) (by unfold str6; simp <;> omega)).tr (FrW.wl (by omega) (by unfold str6; simp <;> omega)))) ?_ hc0.nx ?_ ?_ (hnx.2 e)
            · omega
            · rw [hI_off (by omega), hI_off (by omega)]
              exact hr
            · rw [hI_off (by omega), hI_off (by omega)]
              exact hg29
            · rw [hI_off (by omega), hI_off (by omega)]
              exact hg30
        · refine ar_aload_n 112 rfl d_X6_checkMemories_111 rfl ?_
          refine ar_iload 114 rfl d_X6_checkMemories_112 rfl ?_
          refine ar_bipush 116 rfl d_X6_checkMemories_114 rfl ?_
          refine ar_isub 117 rfl d_X6_checkMemories_116 ?_
          refine ar_putI 120 rfl d_X6_checkMemories_117 fl_X6_169 rfl rfl (by assumption) ?_
          refine WA.ret none ⟨d_X6_checkMemories_120, rfl, rfl⟩ ?_
          refine K2 _ na lk i (ids.drop (na + 1)) M x (by omega) hd hMm hMi hx (by omega) hrm (hf.tr (FrW.wg (by omega))) ?_ (hc0.cg (fun b i h1 h2 h3 => by rw [hI_off (by omega)])) ?_ ?_
          · rw [hI_off (by omega)]
            exact hr
          · rw [hI_w, if_neg (by omega)]
            exact hg29
          · rw [hI_w, if_pos ⟨rfl, rfl⟩]
      · refine ar_aload_n 68 rfl d_X6_checkMemories_67 rfl ?_
        refine ar_aload_n 69 rfl d_X6_checkMemories_68 rfl ?_
        refine ar_iload_n 70 rfl d_X6_checkMemories_69 rfl ?_
        refine ar_callS0 (M' := mX6_memoryAt) (As := [_]) (ls' := [Vi _]) 73 rfl d_X6_checkMemories_70 ml_X6_147 mt_X6_memoryAt rfl (Nat.le_of_ble_eq_true rfl) rfl (Nat.le_of_ble_eq_true rfl) (by omega) ?_
        refine sp_X6_memoryAt (by omega) ?_
        refine ar_iconst 74 rfl d_X6_checkMemories_73 ?_
        refine ar_iadd 75 rfl d_X6_checkMemories_74 ?_
        refine ar_top (y := ((816 + 40 * p + 2 : Nat) : Int)) (by omega) ?_
        refine ar_ilv (y := (mRes M)) 76 rfl d_X6_checkMemories_75 (by assumption) (by omega) (by rw [Int.toNat_natCast]; exact hmm.2.2.1) ?_
        refine ar_putI 79 rfl d_X6_checkMemories_76 fl_X6_163 rfl rfl (by assumption) ?_
        refine ar_aload_n 80 rfl d_X6_checkMemories_79 rfl ?_
        refine ar_aload_n 81 rfl d_X6_checkMemories_80 rfl ?_
        refine ar_iload_n 82 rfl d_X6_checkMemories_81 rfl ?_
        refine ar_callV0 (M' := mX6_useMemory) (As := [_, _]) (ls' := [Va _, Vr _, Vi _, Vu]) 85 rfl d_X6_checkMemories_82 ml_X6_166 mt_X6_useMemory (by assumption) rfl (Nat.le_of_ble_eq_true rfl) rfl (Nat.le_of_ble_eq_true rfl) (by omega) ?_
        have hlo := hI9.loaf hMm (by rw [hMi]; exact him)
        have hlkl : lk = (mLk M).length := by omega
        have hZ : Z = (S, some p) := by
          rw [hlkl, List.drop_length, rM_nil, hpf.1] at hrm
          exact hrm.symm
        refine sp_X6_useMemory k625 hS.k636 hS.r15 ha haa (by rw [hI_off (by omega)]; exact hr) hb hM hlo hl (by omega) (fun σ1 e1 hf1 hr1 => ?_)
        refine WA.ret none ⟨d_X6_checkMemories_85, rfl, rfl⟩ ?_
        refine K1 σ1 p M hZ hM (hf.tr ((FrW.wg (by omega)).tr (FrW.wa ha6 e1 hf1))) hr1 ?_ ?_ ?_ ?_
        · rw [hf1 637 (by omega) (by omega), hI_off (by omega)]
          exact c1
        · rw [hf1 638 (by omega) (by omega), hI_off (by omega)]
          exact c2
        · rw [hf1 625 (by omega) (by omega), hI_w, if_pos ⟨rfl, rfl⟩]
        · rw [hf1 625 (by omega) (by omega), hI_w, if_neg (by omega)]
          exact hg30
    · have hno2 : ∀ M ∈ S.2.1, mSer M ≠ i := fun M hM => by have := hno M hM; omega
      refine ar_ist_3 36 rfl d_X6_checkMemories_35 rfl (by intro _ h; cases h) ?_
      refine ar_iload_n 37 rfl d_X6_checkMemories_36 rfl ?_
      refine ar_bipush 39 rfl d_X6_checkMemories_37 rfl ?_
      refine ar_icmp_ne 50 42 rfl rfl d_X6_checkMemories_39 (by omega) (by omega) (fun h => absurd rfl h) (fun g39 => ?_)
      refine ar_aload_n 43 rfl d_X6_checkMemories_42 rfl ?_
      refine ar_iload_n 44 rfl d_X6_checkMemories_43 rfl ?_
      refine ar_callV0 (M' := mX6_nextName) (As := [_]) (ls' := [Va _, Vi _]) 47 rfl d_X6_checkMemories_44 ml_X6_159 mt_X6_nextName (by assumption) rfl (Nat.le_of_ble_eq_true rfl) rfl (Nat.le_of_ble_eq_true rfl) (by omega) ?_
      refine sp_X6_nextName hS hl c5 ?_
      refine ar_goto 133 rfl d_X6_checkMemories_47 ?_
      refine ar_goto 0 rfl d_X6_checkMemories_133 ?_
      refine ih _ ?_ (na + 1) 0 _ _ _ rfl (by omega) (by omega) (hS.e rfl) (hf.tr ((FrW.wl (by omega) (by unfold str6; simp <;> omega)).tr (FrW.wl (by omega) (by unfold str6; simp <;> omega)))) ?_ hc0.nx ?_ ?_ (hcf.no hd hno2)
      · omega
      · rw [hI_off (by omega), hI_off (by omega)]
        exact hr
      · rw [hI_off (by omega), hI_off (by omega)]
        exact hg29
      · rw [hI_off (by omega), hI_off (by omega)]
        exact hg30
end REF4
