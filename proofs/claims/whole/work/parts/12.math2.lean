/-! the other answers, and what keeps the tie -/
theorem bb_lo_1023 : bb_lo 1023 := bb_lo_of (a := 1023) (by omega)
theorem bb_e_blocks {w : Nat → Int32} {k s : Int32} (hw : bb_wok w) (hk : bb_kok k) : bb_al (fun x => !(bb_en w k (nI x) && decide (nI x &&& s = 0))) 1024 = !bb_en w k (1023 &&& bb_not s) := by
  obtain ⟨K, hK1, hK2, rfl⟩ := hk
  have hlo : bb_lo (1023 &&& bb_not s) := bb_lo_and bb_lo_1023
  have hbits : ∀ i, i < 10 → bb_hb (1023 &&& bb_not s) i = !bb_hb s i := fun i hi => by
    rw [bb_hb_and (by omega), bb_hb_1023 i hi, bb_hb_not (by omega)]; simp
  cases he : bb_en w (nI K) (1023 &&& bb_not s) with
  | true =>
    obtain ⟨c, hc, e⟩ := bb_lo_to hlo
    refine bb_al_no (j := c) ?_ hc
    rw [← e, he]
    have : (1023 &&& bb_not s) &&& s = 0 := by
      refine bb_ext10 (bb_lo_and hlo) bb_lo_0 (fun i hi => ?_)
      rw [bb_hb_and (by omega), hbits i hi, bb_hb_0 (by omega)]
      cases bb_hb s i <;> rfl
    rw [decide_eq_true this]
    rfl
  | false =>
    show _ = true
    rw [bb_al_iff]
    intro x hx
    cases hx1 : bb_en w (nI K) (nI x) with
    | false => rfl
    | true =>
      by_cases hd : nI x &&& s = 0
      · exfalso
        rw [bb_en_iff hw hK2] at hx1
        have hm : bb_sw (bb_N w) (bb_hb (nI x)) 10 ≤ bb_sw (bb_N w) (bb_hb (1023 &&& bb_not s)) 10 := by
          refine bb_sw_mono (fun i hi hb => ?_)
          rw [hbits i hi]
          have h1 : bb_hb (nI x &&& s) i = false := by rw [hd, bb_hb_0 (by omega)]
          rw [bb_hb_and (by omega), hb] at h1
          simpa using h1
        have : bb_en w (nI K) (1023 &&& bb_not s) = true := (bb_en_iff hw hK2 _).mpr (by omega)
        rw [this] at he; cases he
      · simp [hd]
theorem bb_e_meet {w : Nat → Int32} {k : Int32} : bb_al (fun x => !(bb_en w k (nI x) && bb_en w k (bb_not (nI x) &&& 1023))) 1024 = bb_al (fun x => !(bb_en w k (nI x) && bb_en w k (1023 &&& bb_not (nI x)))) 1024 := by
  apply bb_al_congr
  intro i hi
  rw [show (bb_not (nI i) &&& 1023 : Int32) = 1023 &&& bb_not (nI i) from b_ext (fun j _ => by rw [b_and, b_and, Bool.and_comm])]
theorem bb_and1v (x : Int32) : x &&& 1 = if bt x 0 = true then 1 else 0 := by
  apply b_ext
  intro i hi
  rw [b_and, bb_b1 i hi]
  by_cases h0 : i = 0
  · subst h0
    cases bt x 0 <;> simp [b_0, bb_b1]
  · cases bt x 0
    · simp [h0, b_0]
    · simp [h0, bb_b1 i hi]
theorem bb_hbv {s : Int32} {j : Nat} (hj : j < 32) : (s >>> (nI j &&& 31)) &&& 1 = if bb_hb s j = true then 1 else 0 := by
  rw [bb_and1v, b_sshr j hj s (by omega), bb_hb_bt hj]
  simp [hj]
theorem bb_hb0 {s : Int32} {j : Nat} (hj : j < 32) : decide ((s >>> (nI j &&& 31)) &&& 1 = 0) = !bb_hb s j := by
  rw [bb_hbv hj]
  cases bb_hb s j
  · rfl
  · rfl
theorem bb_sz_ok (s : Int32) {n : Nat} (hn : n ≤ 32) : bb_sz s n = nI (bb_cn (bb_hb s) n) := by
  induction n with
  | zero => rfl
  | succ n ih =>
    simp only [bb_sz, bb_cn]
    rw [ih (by omega), bb_hbv (by omega)]
    by_cases h : bb_hb s n = true
    · rw [if_pos h, if_pos h]; exact nI_1 _
    · rw [if_neg h, if_neg h]; simp
theorem bb_e_size {x : Nat} (hx : x < 1024) : bb_bc (nI x) = bb_sz (nI x) 10 := by
  rw [bb_bc_ok (bb_lo_of hx), bb_sz_ok _ (by omega)]
theorem bb_e_least {w : Nat → Int32} {k : Int32} {n : Nat} (hn : n ≤ 1024) : bb_lr w k n = bb_lc w k n := by
  induction n with
  | zero => rfl
  | succ n ih =>
    simp only [bb_lr, bb_lc]
    rw [ih (by omega), bb_e_size (show n < 1024 by omega), Bool.and_comm]
def bb_mN (W : Nat → Nat) (p : Nat → Bool) : Nat → Nat
  | 0 => 50
  | j + 1 => if p j = true then (if W j < bb_mN W p j then W j else bb_mN W p j) else bb_mN W p j
theorem bb_mN_le {W : Nat → Nat} {p : Nat → Bool} {n : Nat} : bb_mN W p n ≤ 50 ∧ (∀ i, i < n → p i = true → bb_mN W p n ≤ W i) ∧ (bb_mN W p n = 50 ∨ ∃ i, i < n ∧ p i = true ∧ W i = bb_mN W p n) := by
  induction n with
  | zero => exact ⟨Nat.le_refl _, fun i hi => by omega, Or.inl rfl⟩
  | succ n ih =>
    obtain ⟨h1, h2, h3⟩ := ih
    simp only [bb_mN]
    by_cases hp : p n = true
    · rw [if_pos hp]
      by_cases hl : W n < bb_mN W p n
      · rw [if_pos hl]
        refine ⟨by omega, fun i hi hpi => ?_, Or.inr ⟨n, by omega, hp, rfl⟩⟩
        rcases Nat.lt_or_ge i n with h | h
        · have := h2 i h hpi; omega
        · have : i = n := by omega
          subst this; exact Nat.le_refl _
      · rw [if_neg hl]
        refine ⟨h1, fun i hi hpi => ?_, ?_⟩
        · rcases Nat.lt_or_ge i n with h | h
          · exact h2 i h hpi
          · have : i = n := by omega
            subst this; omega
        · rcases h3 with h3 | ⟨i, a, b, c⟩
          · exact Or.inl h3
          · exact Or.inr ⟨i, by omega, b, c⟩
    · rw [if_neg hp]
      refine ⟨h1, fun i hi hpi => ?_, ?_⟩
      · rcases Nat.lt_or_ge i n with h | h
        · exact h2 i h hpi
        · have : i = n := by omega
          subst this; exact absurd hpi hp
      · rcases h3 with h3 | ⟨i, a, b, c⟩
        · exact Or.inl h3
        · exact Or.inr ⟨i, by omega, b, c⟩
theorem bb_lm_nat {w : Nat → Int32} (hw : bb_wok w) (s : Int32) {n : Nat} (hn : n ≤ 10) : bb_lm w s n = nI (bb_mN (bb_N w) (bb_hb s) n) := by
  induction n with
  | zero => rfl
  | succ n ih =>
    have h1 := ih (by omega)
    have h2 := bb_wok_N hw (show n < 10 by omega)
    have h3 := (bb_mN_le (W := bb_N w) (p := bb_hb s) (n := n)).1
    simp only [bb_lm, bb_mN]
    by_cases h : bb_hb s n = true
    · rw [if_pos h, if_pos h, h1]
      by_cases hl : bb_N w n < bb_mN (bb_N w) (bb_hb s) n
      · rw [if_pos hl, if_pos (by rw [h2.1]; exact nI_lt hl (by omega))]; exact h2.1
      · rw [if_neg hl, if_neg (by rw [h2.1]; exact nI_nlt (by omega) (by omega))]
    · rw [if_neg h, if_neg h, h1]
theorem bb_e_bare {w : Nat → Int32} {k s : Int32} (hw : bb_wok w) (hk : bb_kok k) : bb_rbare w k s 10 = bb_bare w k s := by
  obtain ⟨K, hK1, hK2, rfl⟩ := hk
  unfold bb_rbare bb_bare
  show _ = (bb_en w (nI K) s && _)
  cases he : bb_en w (nI K) s with
  | false => rfl
  | true =>
    simp only [Bool.true_and]
    apply bb_bool
    have hS := (bb_en_iff hw hK2 s).mp he
    have hS5 := bb_ws_lt hw (bb_hb s)
    obtain ⟨m1, m2, m3⟩ := bb_mN_le (W := bb_N w) (p := bb_hb s) (n := 10)
    have hrem : ∀ n, n < 10 → bb_hb s n = true → (bb_en w (nI K) (s &&& bb_not ((1 : Int32) <<< (nI n &&& 31))) = true ↔ K ≤ bb_sw (bb_N w) (bb_hb s) 10 - bb_N w n) ∧ bb_N w n ≤ bb_sw (bb_N w) (bb_hb s) 10 := by
      intro n hn hb
      have h1 := bb_sw_rem (W := bb_N w) (p := bb_hb s) hn hb
      have h2 : bb_sw (bb_N w) (bb_hb (s &&& bb_not ((1 : Int32) <<< (nI n &&& 31)))) 10 = bb_sw (bb_N w) (fun i => bb_hb s i && !decide (i = n)) 10 :=
        bb_sw_congr (fun i hi => by rw [bb_hb_and (by omega), bb_hb_not (by omega), bb_hb_one (by omega) (by omega)])
      rw [bb_en_iff hw hK2, h2]
      constructor
      · constructor <;> intro _ <;> omega
      · omega
    rw [bb_al_iff, decide_eq_true_iff, bb_ws_nat hw s (Nat.le_refl _), bb_lm_nat hw s (Nat.le_refl _)]
    have hne : ∃ i, i < 10 ∧ bb_hb s i = true := by
      apply Classical.byContradiction
      intro hn
      have : bb_en w (nI K) s = false := bb_en_none ⟨K, hK1, hK2, rfl⟩ (fun i hi => by
        cases hb : bb_hb s i with
        | false => rfl
        | true => exact absurd ⟨i, hi, hb⟩ hn)
      rw [this] at he; cases he
    obtain ⟨i0, hi0, hb0⟩ := hne
    have hm0 := m2 i0 hi0 hb0
    have hw0 := (bb_wok_N hw hi0).2
    have hr0 := (hrem i0 hi0 hb0).2
    rw [pk_sub (by omega), nI_ltI (by omega) (by omega)]
    constructor
    · intro h
      rcases m3 with m3 | ⟨i, hi, hb, hW⟩
      · have hq := h i0 hi0
        rw [bb_hb0 (by omega), hb0] at hq
        simp only [Bool.not_true, Bool.false_or, Bool.not_eq_true'] at hq
        have hq2 : ¬ K ≤ bb_sw (bb_N w) (bb_hb s) 10 - bb_N w i0 := fun z => by rw [(hrem i0 hi0 hb0).1.mpr z] at hq; cases hq
        omega
      · have hq := h i hi
        rw [bb_hb0 (by omega), hb] at hq
        simp only [Bool.not_true, Bool.false_or, Bool.not_eq_true'] at hq
        have hq2 : ¬ K ≤ bb_sw (bb_N w) (bb_hb s) 10 - bb_N w i := fun z => by rw [(hrem i hi hb).1.mpr z] at hq; cases hq
        omega
    · intro h i hi
      rw [bb_hb0 (by omega)]
      cases hb : bb_hb s i with
      | false => rfl
      | true =>
        simp only [Bool.not_true, Bool.false_or, Bool.not_eq_true']
        cases hq : bb_en w (nI K) (s &&& bb_not ((1 : Int32) <<< (nI i &&& 31))) with
        | false => rfl
        | true =>
          have := (hrem i hi hb).1.mp hq
          have := m2 i hi hb
          omega
section Tie
variable {w : Nat → Int32} {k : Int32} {pr vo vf vt : Nat → Int32}
theorem bb_e_about2 (h : bb_ok w k pr vo vf vt) {n : Nat} (hn : n < 10) : bb_cn (fun b => decide (vt (31 * n + b) ≠ -1)) 31 = bb_cn (fun b => bb_hb (vo b) n) 31 :=
  bb_cn_congr (fun b hb => bb_vt_ne h hn hb)
theorem bb_e_about3 (h : bb_ok w k pr vo vf vt) {n : Nat} (hn : n < 10) : bb_la (fun b => decide (vt (31 * n + b) ≠ -1)) 31 = bb_la (fun b => decide (vo b &&& ((1 : Int32) <<< (nI n &&& 31)) ≠ 0)) 31 := by
  apply bb_la_congr
  intro b hb
  rw [bb_vt_ne h hn hb]
  obtain ⟨-, -, -, h4, -⟩ := id h
  obtain ⟨hl, -, -⟩ := h4 b hb
  apply bb_bool
  rw [decide_eq_true_iff, bb_lo_ne0 (bb_lo_and hl)]
  constructor
  · intro hh
    exact ⟨n, hn, by rw [bb_hb_and (by omega), hh, bb_hb_one (by omega) (by omega)]; simp⟩
  · intro ⟨i, hi, hh⟩
    rw [bb_hb_and (by omega), bb_hb_one (by omega) (by omega)] at hh
    simp only [Bool.and_eq_true, decide_eq_true_iff] at hh
    rw [← hh.2]; exact hh.1
theorem bb_e_count1 : bb_ws w 1023 10 = bb_wa w 10 := by
  have : ∀ n, n ≤ 10 → bb_ws w 1023 n = bb_wa w n := by
    intro n
    induction n with
    | zero => intro _; rfl
    | succ n ih => intro hn; simp only [bb_ws, bb_wa]; rw [if_pos (bb_hb_1023 n (by omega)), ih (by omega)]
  exact this 10 (Nat.le_refl _)
theorem bb_vs_nat (h : bb_ok w k pr vo vf vt) {n : Nat} (hn : n ≤ 31) : bb_vs vo n = nI (bb_sm (fun b => bb_cn (fun i => bb_hb (vo b) i) 10) n) := by
  induction n with
  | zero => rfl
  | succ n ih =>
    obtain ⟨-, -, -, h4, -⟩ := id h
    simp only [bb_vs, bb_sm]
    rw [ih (by omega), bb_bc_ok (h4 n (by omega)).1, nI_add]
theorem bb_e_count2 (h : bb_ok w k pr vo vf vt) : nI (bb_cn (fun j => decide (vt j ≠ -1)) 310) = bb_vs vo 31 := by
  rw [bb_vs_nat h (Nat.le_refl _), show 310 = 31 * 10 from rfl, bb_cn_block]
  congr 1
  rw [bb_sm_congr (g := fun i => bb_sm (fun b => if bb_hb (vo b) i = true then 1 else 0) 31) (fun i hi => by rw [bb_cn_congr (fun b hb => bb_vt_ne h hi hb), bb_cn_sm]), bb_sm_swap]
  apply bb_sm_congr
  intro b hb
  rw [bb_cn_sm]
theorem bb_e_count3 (h : bb_ok w k pr vo vf vt) : bb_cn (fun b => decide (bb_rch w k vt b ≠ -1)) 31 = bb_cn (fun b => decide (bb_cho w k vo vf b ≠ -1)) 31 :=
  bb_cn_congr (fun b hb => by rw [bb_e_ch h hb])
theorem bb_cho_in (h : bb_ok w k pr vo vf vt) {b : Nat} (hb : b < 31) : bb_cho w k vo vf b = -1 ∨ ∃ v : Nat, v < 10 ∧ bb_cho w k vo vf b = nI v := by
  obtain ⟨-, -, -, h4, -⟩ := id h
  unfold bb_cho
  split
  · exact (h4 b hb).2.2
  · exact Or.inl rfl
theorem bb_se_ok {ch : Nat → Int32} {n : Nat} (h : ∀ b, b < n → ch b = -1 ∨ ∃ v : Nat, v < 10 ∧ ch b = nI v) : bb_lo (bb_se ch n) ∧ ∀ v, v < 10 → bb_hb (bb_se ch n) v = bb_ex (fun b => decide (ch b = nI v)) n := by
  induction n with
  | zero => exact ⟨bb_lo_0, fun v hv => by simp [bb_se, bb_ex, bb_hb_0 (show v < 32 by omega)]⟩
  | succ n ih =>
    obtain ⟨h1, h2⟩ := ih (fun b hb => h b (by omega))
    simp only [bb_se, bb_ex]
    rcases h n (by omega) with h3 | ⟨t, ht, h3⟩
    · rw [if_pos h3]
      refine ⟨h1, fun v hv => ?_⟩
      rw [h2 v hv, h3, decide_eq_false (fun z => bb_m1 (show v < 2 ^ 31 by omega) z.symm), Bool.or_false]
    · rw [if_neg (by rw [h3]; exact bb_m1 (by omega)), h3]
      refine ⟨bb_lo_or h1 (bb_lo_one ht), fun v hv => ?_⟩
      rw [bb_hb_or (by omega), h2 v hv, bb_hb_one (by omega) (by omega)]
      congr 1
      apply bb_bool
      rw [decide_eq_true_iff, decide_eq_true_iff, nI_eq (by omega) (by omega)]
      exact ⟨fun z => z.symm, fun z => z.symm⟩
theorem bb_e_count4 (h : bb_ok w k pr vo vf vt) : nI (bb_cn (fun v => bb_ex (fun b => decide (bb_rch w k vt b = nI v)) 31) 10) = bb_bc (bb_se (bb_cho w k vo vf) 31) := by
  obtain ⟨h1, h2⟩ := bb_se_ok (ch := bb_cho w k vo vf) (n := 31) (fun b hb => bb_cho_in h hb)
  rw [bb_bc_ok h1]
  congr 1
  apply bb_cn_congr
  intro v hv
  rw [h2 v hv]
  apply bb_ex_congr
  intro b hb
  rw [bb_e_ch h hb]
theorem bb_e_hi {s : Int32} {b : Nat} (hb : b < 2 ^ 31) (pr : Nat → Int32) (n : Nat) : nI b < bb_hm pr s n ↔ bb_ex (fun i => bb_hb s i && decide (nI b < pr i)) n = true := by
  induction n with
  | zero =>
    constructor
    · intro z
      exact absurd (show nI b < nI 0 from z) (nI_nlt (by omega) hb)
    · intro z; cases z
  | succ n ih =>
    have e1 : bb_ex (fun i => bb_hb s i && decide (nI b < pr i)) (n + 1) = (bb_ex (fun i => bb_hb s i && decide (nI b < pr i)) n || (bb_hb s n && decide (nI b < pr n))) := rfl
    rw [e1, Bool.or_eq_true, ← ih]
    by_cases h : bb_hb s n = true
    · have e2 : bb_hm pr s (n + 1) = if bb_hm pr s n < pr n then pr n else bb_hm pr s n := by simp only [bb_hm]; rw [if_pos h]
      rw [e2, h, Bool.true_and, decide_eq_true_iff]
      by_cases hl : bb_hm pr s n < pr n
      · rw [if_pos hl]
        rw [Int32.lt_iff_toInt_lt] at hl
        rw [Int32.lt_iff_toInt_lt, Int32.lt_iff_toInt_lt]
        constructor
        · intro z; exact Or.inr z
        · rintro (z | z) <;> omega
      · rw [if_neg hl]
        rw [Int32.lt_iff_toInt_lt] at hl
        rw [Int32.lt_iff_toInt_lt, Int32.lt_iff_toInt_lt]
        constructor
        · intro z; exact Or.inl z
        · rintro (z | z) <;> omega
    · have e2 : bb_hm pr s (n + 1) = bb_hm pr s n := by simp only [bb_hm]; rw [if_neg h]
      simp at h
      rw [e2, h]; simp
theorem bb_fn_eq (h : bb_ok w k pr vo vf vt) {s : Int32} {c : Nat} (hc : c < 31) (acc : Int32) {n : Nat} (hn : n ≤ 10) : bb_fn s vt c acc n = if bb_ex (fun i => bb_hb s i && bb_hb (vo c) i) n = true then vf c else acc := by
  induction n with
  | zero => rfl
  | succ n ih =>
    simp only [bb_fn, bb_ex]
    rw [bb_vt_ne h (show n < 10 by omega) hc, ih (by omega)]
    obtain ⟨-, -, -, -, h5⟩ := id h
    by_cases hx : (bb_hb s n && bb_hb (vo c) n) = true
    · rw [if_pos hx, h5 n (by omega) c hc]
      simp only [Bool.and_eq_true] at hx
      simp [hx.1, hx.2]
    · rw [if_neg hx]
      simp only [Bool.not_eq_true] at hx
      simp only [hx, Bool.or_false]
theorem bb_e_ask (h : bb_ok w k pr vo vf vt) {s : Int32} {b : Nat} (hb : b ≤ 31) : bb_fo s vt b = bb_ask vo vf s b := by
  induction b with
  | zero => rfl
  | succ b ih =>
    have h1 := ih (by omega)
    obtain ⟨-, -, -, h4, -⟩ := id h
    obtain ⟨hl, -, -⟩ := h4 b (by omega)
    have h2 : bb_ex (fun i => bb_hb s i && bb_hb (vo b) i) 10 = decide (vo b &&& s ≠ 0) := by
      apply bb_bool
      rw [decide_eq_true_iff, bb_lo_ne0 (bb_lo_and hl), bb_ex_iff]
      constructor
      · intro ⟨i, hi, hx⟩
        simp only [Bool.and_eq_true] at hx
        exact ⟨i, hi, by rw [bb_hb_and (by omega), hx.1, hx.2]; rfl⟩
      · intro ⟨i, hi, hx⟩
        rw [bb_hb_and (by omega)] at hx
        simp only [Bool.and_eq_true] at hx
        exact ⟨i, hi, by rw [hx.1, hx.2]; rfl⟩
    have e0 : bb_fo s vt (b + 1) = bb_fn s vt b (bb_fo s vt b) 10 := rfl
    rw [e0, bb_fn_eq h (show b < 31 by omega) _ (Nat.le_refl _), h2, h1]
    by_cases hx : decide (vo b &&& s ≠ 0) = true
    · have e1 : bb_la (fun c => decide (vo c &&& s ≠ 0)) (b + 1) = nI b := by simp only [bb_la]; rw [if_pos hx]
      unfold bb_ask
      rw [if_pos hx, e1, if_neg (bb_m1 (by omega)), nI_clamp (by omega)]
    · have e1 : bb_la (fun c => decide (vo c &&& s ≠ 0)) (b + 1) = bb_la (fun c => decide (vo c &&& s ≠ 0)) b := by simp only [bb_la]; rw [if_neg hx]
      rw [if_neg hx]
      unfold bb_ask
      rw [e1]
theorem bb_ok_init {w pr vo vf vt : Nat → Int32} (h1 : ∀ n, n < 10 → w n = 1) (h2 : ∀ n, n < 10 → pr n = 0) (h3 : ∀ n, n < 31 → vo n = 0) (h4 : ∀ n, n < 31 → vf n = -1) (h5 : ∀ n, n < 310 → vt n = -1) : bb_ok w 6 pr vo vf vt := by
  refine ⟨fun n hn => ⟨1, by omega, h1 n hn⟩, ⟨6, by omega, by omega, rfl⟩, fun n hn => ⟨0, by omega, h2 n hn⟩, fun b hb => ⟨by rw [h3 b hb]; exact bb_lo_0, by rw [h3 b hb, h4 b hb]; simp, Or.inl (h4 b hb)⟩, fun n hn b hb => ?_⟩
  rw [h5 _ (by omega), h3 b hb, bb_hb_0 (by omega)]
  rfl
theorem bb_ok_weight (h : bb_ok w k pr vo vf vt) {n a : Nat} (ha : a ≤ 50) : bb_ok (upd w n (nI a)) k pr vo vf vt := by
  obtain ⟨h1, h2, h3, h4, h5⟩ := h
  refine ⟨fun i hi => ?_, h2, h3, h4, h5⟩
  by_cases e : i = n
  · subst e; exact ⟨a, ha, pk_us⟩
  · rw [pk_un e]; exact h1 i hi
theorem bb_ok_need (h : bb_ok w k pr vo vf vt) {a : Nat} (h0 : 1 ≤ a) (ha : a ≤ 500) : bb_ok w (nI a) pr vo vf vt := by
  obtain ⟨h1, h2, h3, h4, h5⟩ := h
  exact ⟨h1, ⟨a, h0, ha, rfl⟩, h3, h4, h5⟩
theorem bb_ok_promise (h : bb_ok w k pr vo vf vt) {n b : Nat} (hb : b < 31) : bb_ok w k (upd pr n (nI b)) vo vf vt := by
  obtain ⟨h1, h2, h3, h4, h5⟩ := h
  refine ⟨h1, h2, fun i hi => ?_, h4, h5⟩
  by_cases e : i = n
  · subst e; exact ⟨b, by omega, pk_us⟩
  · rw [pk_un e]; exact h3 i hi
theorem bb_ok_pal (h : bb_ok w k pr vo vf vt) {s : Int32} {b : Nat} (hb : b < 31) (n : Nat) : bb_ok w k (bb_pal pr s (nI b) n) vo vf vt := by
  induction n with
  | zero => exact h
  | succ n ih =>
    simp only [bb_pal]
    split
    · exact bb_ok_promise ih hb
    · exact ih
theorem bb_ok_vote (h : bb_ok w k pr vo vf vt) {n b v : Nat} (hn : n < 10) (hb : b < 31) (hv : v < 10) (ho : bb_only vf b (nI v) = true) :
    bb_ok w k (upd pr n (nI b)) (upd vo b (vo b ||| ((1 : Int32) <<< (nI n &&& 31)))) (upd vf b (nI v)) (upd vt (31 * n + b) (nI v)) := by
  obtain ⟨h1, h2, h3, h4, h5⟩ := bb_ok_promise h (n := n) hb
  refine ⟨h1, h2, h3, fun c hc => ?_, fun m hm c hc => ?_⟩
  · by_cases e : c = b
    · subst e
      rw [pk_us, pk_us]
      have hlo := bb_lo_or (h4 c hc).1 (bb_lo_one hn)
      refine ⟨hlo, ⟨fun z => absurd z (bb_m1 (by omega)), fun z => ?_⟩, Or.inr ⟨v, hv, rfl⟩⟩
      have : ∃ i, i < 10 ∧ bb_hb (vo c ||| ((1 : Int32) <<< (nI n &&& 31))) i = true := ⟨n, hn, by rw [bb_hb_or (by omega), bb_hb_one (by omega) (by omega)]; simp⟩
      exact absurd z ((bb_lo_ne0 hlo).mpr this)
    · rw [pk_un e, pk_un e]; exact h4 c hc
  · by_cases e : c = b
    · subst e
      rw [pk_us, pk_us, bb_hb_or (by omega), bb_hb_one (by omega) (by omega)]
      by_cases e2 : m = n
      · subst e2; rw [pk_us]; simp
      · rw [pk_un (by omega), h5 m hm c hc, decide_eq_false e2, Bool.or_false]
        by_cases hh : bb_hb (vo c) m = true
        · rw [if_pos hh, if_pos hh]
          have h8 : vf c ≠ -1 := fun z => (bb_lo_ne0 (h4 c hc).1).mpr ⟨m, hm, hh⟩ ((h4 c hc).2.1.mp z)
          unfold bb_only at ho
          simpa [h8] using ho
        · rw [if_neg hh, if_neg hh]
    · rw [pk_un e, pk_un e, pk_un (by omega), h5 m hm c hc]
theorem bb_e_many (h : bb_ok w k pr vo vf vt) {b : Nat} (hb : b < 31) : nI (bb_cn (fun m => decide (vt (31 * m + b) ≠ -1)) 10) = bb_bc (vo b) := by
  obtain ⟨-, -, -, h4, -⟩ := id h
  rw [bb_bc_ok (h4 b hb).1]
  congr 1
  exact bb_cn_congr (fun i hi => bb_vt_ne h hi hb)
end Tie
/-! arguments that there are, and that there aren't -/
def bb_out (v mo : Int32) : Bool := decide (v < 0) || !decide (v < mo)
theorem bb_out_no {n N : Nat} (h : n < N) (hN : N < 2 ^ 31) : bb_out (nI n) (nI N) = false := by
  unfold bb_out
  rw [decide_eq_false (nI_pos (by omega)), decide_eq_true (nI_lt h hN)]
  rfl
theorem bb_out_or (x : Int32) {N : Nat} (hN : N < 2 ^ 31) : bb_out x (nI N) = true ∨ ∃ n : Nat, n < N ∧ x = nI n := by
  rcases pk_ix x hN with h | h | ⟨j, h1, h2⟩
  · exact Or.inl (by unfold bb_out; rw [decide_eq_true h]; rfl)
  · refine Or.inl ?_
    unfold bb_out
    rw [decide_eq_false (show ¬ x < nI N from fun z => by rw [Int32.lt_iff_toInt_lt] at z; rw [Int32.le_iff_toInt_le] at h; omega)]
    simp
  · exact Or.inr ⟨j, h1, h2⟩
theorem bb_out_t {x : Int32} {N : Nat} (h : bb_out x (nI N) = true) : x < 0 ∨ ¬ x < nI N := by
  unfold bb_out at h
  simpa using h
theorem bb_or1 (b : Bool) : bb_I b ||| 1 = 1 := by cases b <;> decide
theorem bb_or0 (b : Bool) : bb_I b ||| 0 = bb_I b := by cases b <;> decide
theorem bb_rbare_succ (w : Nat → Int32) (k s : Int32) (i : Nat) : bb_rbare w k s (i + 1) = (bb_rbare w k s i && (decide ((s >>> (nI i &&& 31)) &&& 1 = 0) || !bb_en w k (s &&& bb_not ((1 : Int32) <<< (nI i &&& 31))))) := by
  unfold bb_rbare
  simp only [bb_al, Bool.and_assoc]
theorem bb_rbare_0 (w : Nat → Int32) (k s : Int32) : bb_rbare w k s 0 = bb_en w k s := by
  unfold bb_rbare
  simp [bb_al]
theorem bb_rbare_mono {w : Nat → Int32} {k s : Int32} {i n : Nat} (h : bb_rbare w k s i = false) (hi : i ≤ n) : bb_rbare w k s n = false := by
  unfold bb_rbare at h ⊢
  cases he : bb_en w k s with
  | false => rfl
  | true =>
    rw [he, Bool.true_and] at h
    rw [Bool.true_and]
    exact bb_al_mono h hi
theorem bb_la_in {p : Nat → Bool} {n : Nat} (h : ¬ bb_la p n = -1) : ∃ c : Nat, c < n ∧ bb_la p n = nI c := by
  induction n with
  | zero => exact absurd rfl h
  | succ n ih =>
    simp only [bb_la] at h ⊢
    by_cases hp : p n = true
    · rw [if_pos hp]
      exact ⟨n, by omega, rfl⟩
    · rw [if_neg hp] at h ⊢
      obtain ⟨c, h1, h2⟩ := ih h
      exact ⟨c, by omega, h2⟩
