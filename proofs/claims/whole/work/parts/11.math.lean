/-! what the class and the reference answer, as words over their arrays; they answer alike where the arrays are tied -/
def bb_ex (p : Nat → Bool) : Nat → Bool
  | 0 => false
  | j + 1 => bb_ex p j || p j
def bb_N (w : Nat → Int32) (n : Nat) : Nat := (w n).toNatClampNeg
def bb_sw (W : Nat → Nat) (p : Nat → Bool) : Nat → Nat
  | 0 => 0
  | j + 1 => if p j = true then bb_sw W p j + W j else bb_sw W p j
def bb_wa (w : Nat → Int32) : Nat → Int32
  | 0 => 0
  | j + 1 => bb_wa w j + w j
def bb_op (pr vo : Nat → Int32) (b n : Nat) : Bool := !bb_hb (vo b) n && decide (pr n ≤ nI b)
def bb_way (w : Nat → Int32) (k : Int32) (pr vo : Nat → Int32) (b : Nat) : Bool := bb_en w k (vo b ||| bb_bl (bb_op pr vo b) 10)
def bb_only (vf : Nat → Int32) (b : Nat) (v : Int32) : Bool := decide (vf b = -1) || decide (vf b = v)
def bb_saf (w : Nat → Int32) (k : Int32) (pr vo vf : Nat → Int32) (b : Nat) (v : Int32) : Bool := bb_al (fun c => !(decide (vf c ≠ v) && bb_way w k pr vo c)) b
def bb_cho (w : Nat → Int32) (k : Int32) (vo vf : Nat → Int32) (b : Nat) : Int32 := if bb_en w k (vo b) = true then vf b else -1
def bb_lm (w : Nat → Int32) (s : Int32) : Nat → Int32
  | 0 => 50
  | j + 1 => if bb_hb s j = true then (if w j < bb_lm w s j then w j else bb_lm w s j) else bb_lm w s j
def bb_hm (pr : Nat → Int32) (s : Int32) : Nat → Int32
  | 0 => 0
  | j + 1 => if bb_hb s j = true then (if bb_hm pr s j < pr j then pr j else bb_hm pr s j) else bb_hm pr s j
def bb_pal (pr : Nat → Int32) (s b : Int32) : Nat → (Nat → Int32)
  | 0 => pr
  | j + 1 => if bb_hb s j = true then upd (bb_pal pr s b j) j b else bb_pal pr s b j
def bb_bare (w : Nat → Int32) (k s : Int32) : Bool := decide (k ≤ bb_ws w s 10) && decide (bb_ws w s 10 - bb_lm w s 10 < k)
def bb_lc (w : Nat → Int32) (k : Int32) : Nat → Int32
  | 0 => -1
  | j + 1 => if ((decide (bb_lc w k j = -1) || decide (bb_bc (nI j) < bb_lc w k j)) && bb_en w k (nI j)) = true then bb_bc (nI j) else bb_lc w k j
def bb_vs (vo : Nat → Int32) : Nat → Int32
  | 0 => 0
  | j + 1 => bb_vs vo j + bb_bc (vo j)
def bb_se (ch : Nat → Int32) : Nat → Int32
  | 0 => 0
  | j + 1 => if ch j = -1 then bb_se ch j else bb_se ch j ||| ((1 : Int32) <<< (ch j &&& 31))
def bb_ask (vo vf : Nat → Int32) (s : Int32) (b : Nat) : Int32 := if bb_la (fun c => decide (vo c &&& s ≠ 0)) b = -1 then -1 else vf (bb_la (fun c => decide (vo c &&& s ≠ 0)) b).toNatClampNeg
/-! the reference's -/
def bb_rop (pr vt : Nat → Int32) (b n : Nat) : Bool := decide (vt (31 * n + b) = -1) && decide (pr n ≤ nI b)
def bb_rot (vt : Nat → Int32) (b : Nat) (v : Int32) : Bool := bb_ex (fun n => decide (vt (31 * n + b) ≠ -1) && decide (vt (31 * n + b) ≠ v)) 10
def bb_rch (w : Nat → Int32) (k : Int32) (vt : Nat → Int32) (b : Nat) : Int32 := bb_fi (fun v => bb_en w k (bb_bl (fun n => decide (vt (31 * n + b) = nI v)) 10)) 10
def bb_rcan (w : Nat → Int32) (k : Int32) (pr vt : Nat → Int32) (b : Nat) (v : Int32) : Bool := !bb_rot vt b v && bb_en w k (bb_bl (fun n => decide (vt (31 * n + b) = v) || bb_rop pr vt b n) 10)
def bb_rsafI (w : Nat → Int32) (k : Int32) (pr vt : Nat → Int32) (v : Int32) (c u : Nat) : Bool := !(decide (nI u ≠ v) && bb_rcan w k pr vt c (nI u))
def bb_rsaf (w : Nat → Int32) (k : Int32) (pr vt : Nat → Int32) (b : Nat) (v : Int32) : Bool := bb_al (fun c => bb_al (bb_rsafI w k pr vt v c) 10) b
def bb_sz (s : Int32) : Nat → Int32
  | 0 => 0
  | j + 1 => bb_sz s j + ((s >>> (nI j &&& 31)) &&& 1)
def bb_lr (w : Nat → Int32) (k : Int32) : Nat → Int32
  | 0 => -1
  | j + 1 => if (bb_en w k (nI j) && (decide (bb_lr w k j = -1) || decide (bb_sz (nI j) 10 < bb_lr w k j))) = true then bb_sz (nI j) 10 else bb_lr w k j
def bb_rbare (w : Nat → Int32) (k s : Int32) (n : Nat) : Bool := bb_en w k s && bb_al (fun n => decide ((s >>> (nI n &&& 31)) &&& 1 = 0) || !bb_en w k (s &&& bb_not ((1 : Int32) <<< (nI n &&& 31)))) n
def bb_fn (s : Int32) (vt : Nat → Int32) (c : Nat) (acc : Int32) : Nat → Int32
  | 0 => acc
  | n + 1 => if (bb_hb s n && decide (vt (31 * n + c) ≠ -1)) = true then vt (31 * n + c) else bb_fn s vt c acc n
def bb_fo (s : Int32) (vt : Nat → Int32) : Nat → Int32
  | 0 => -1
  | c + 1 => bb_fn s vt c (bb_fo s vt c) 10
/-! laws -/
theorem bb_ex_iff {p : Nat → Bool} {n : Nat} : bb_ex p n = true ↔ ∃ i, i < n ∧ p i = true := by
  induction n with
  | zero => simp [bb_ex]
  | succ n ih =>
    simp only [bb_ex, Bool.or_eq_true, ih]
    constructor
    · rintro (⟨i, h1, h2⟩ | h)
      · exact ⟨i, by omega, h2⟩
      · exact ⟨n, by omega, h⟩
    · intro ⟨i, h1, h2⟩
      rcases Nat.lt_or_ge i n with h | h
      · exact Or.inl ⟨i, h, h2⟩
      · have : i = n := by omega
        subst this; exact Or.inr h2
theorem bb_ex_hit {p : Nat → Bool} {n j : Nat} (h : p j = true) (hj : j < n) : bb_ex p n = true := bb_ex_iff.mpr ⟨j, hj, h⟩
theorem bb_ex_congr {p q : Nat → Bool} {n : Nat} (h : ∀ i, i < n → p i = q i) : bb_ex p n = bb_ex q n := by
  induction n with
  | zero => rfl
  | succ n ih => simp only [bb_ex]; rw [ih (fun i hi => h i (by omega)), h n (by omega)]
theorem bb_bool {a b : Bool} (h : a = true ↔ b = true) : a = b := by cases a <;> cases b <;> simp_all
theorem bb_m1 {t : Nat} (h : t < 2 ^ 31) : ¬ nI t = -1 := by
  intro q
  have a := nI_toInt h
  rw [q] at a
  have : (-1 : Int32).toInt = -1 := by decide
  omega
def bb_wok (w : Nat → Int32) : Prop := ∀ n, n < 10 → ∃ a : Nat, a ≤ 50 ∧ w n = nI a
theorem bb_wok_N {w : Nat → Int32} (h : bb_wok w) {n : Nat} (hn : n < 10) : w n = nI (bb_N w n) ∧ bb_N w n ≤ 50 := by
  obtain ⟨a, h1, h2⟩ := h n hn
  have h3 : bb_N w n = a := by unfold bb_N; rw [h2]; exact nI_clamp (by omega)
  rw [h3]; exact ⟨h2, h1⟩
theorem bb_sw_le {W : Nat → Nat} {p : Nat → Bool} {n : Nat} (h : ∀ i, i < n → W i ≤ 50) : bb_sw W p n ≤ 50 * n := by
  induction n with
  | zero => exact Nat.le_refl _
  | succ n ih =>
    have := ih (fun i hi => h i (by omega))
    have := h n (by omega)
    simp only [bb_sw]; split <;> omega
theorem bb_sw_congr {W : Nat → Nat} {p q : Nat → Bool} {n : Nat} (h : ∀ i, i < n → p i = q i) : bb_sw W p n = bb_sw W q n := by
  induction n with
  | zero => rfl
  | succ n ih => simp only [bb_sw]; rw [ih (fun i hi => h i (by omega)), h n (by omega)]
theorem bb_sw_mono {W : Nat → Nat} {p q : Nat → Bool} {n : Nat} (h : ∀ i, i < n → p i = true → q i = true) : bb_sw W p n ≤ bb_sw W q n := by
  induction n with
  | zero => exact Nat.le_refl _
  | succ n ih =>
    have h1 := ih (fun i hi => h i (by omega))
    have h2 := h n (by omega)
    simp only [bb_sw]
    by_cases hp : p n = true
    · rw [if_pos hp, if_pos (h2 hp)]; omega
    · rw [if_neg hp]; split <;> omega
theorem bb_sw_rem {W : Nat → Nat} {p : Nat → Bool} {n m : Nat} (hm : m < n) (hp : p m = true) : bb_sw W p n = bb_sw W (fun i => p i && !decide (i = m)) n + W m := by
  induction n with
  | zero => omega
  | succ n ih =>
    rcases Nat.lt_or_ge m n with h | h
    · have h1 := ih h
      have h2 : (p n && !decide (n = m)) = p n := by rw [decide_eq_false (by omega)]; simp
      simp only [bb_sw, h2]
      split <;> omega
    · have : m = n := by omega
      subst this
      have h2 : (p m && !decide (m = m)) = false := by simp
      have h3 : bb_sw W (fun i => p i && !decide (i = m)) m = bb_sw W p m := bb_sw_congr (fun i hi => by rw [decide_eq_false (by omega)]; simp)
      simp only [bb_sw, h2, hp, h3, if_true]
      simp
theorem bb_ws_nat {w : Nat → Int32} (hw : bb_wok w) (s : Int32) {n : Nat} (hn : n ≤ 10) : bb_ws w s n = nI (bb_sw (bb_N w) (bb_hb s) n) := by
  induction n with
  | zero => rfl
  | succ n ih =>
    have h1 := ih (by omega)
    have h2 := (bb_wok_N hw (show n < 10 by omega)).1
    simp only [bb_ws, bb_sw]
    by_cases h : bb_hb s n = true
    · rw [if_pos h, if_pos h, h1, ← nI_add, ← h2]
    · rw [if_neg h, if_neg h, h1]
theorem bb_ws_lt {w : Nat → Int32} (hw : bb_wok w) (p : Nat → Bool) : bb_sw (bb_N w) p 10 ≤ 500 :=
  bb_sw_le (n := 10) (fun i hi => (bb_wok_N hw hi).2)
def bb_kok (k : Int32) : Prop := ∃ a : Nat, 1 ≤ a ∧ a ≤ 500 ∧ k = nI a
theorem bb_en_iff {w : Nat → Int32} (hw : bb_wok w) {K : Nat} (hK : K ≤ 500) (s : Int32) : bb_en w (nI K) s = true ↔ K ≤ bb_sw (bb_N w) (bb_hb s) 10 := by
  have h := bb_ws_lt hw (bb_hb s)
  unfold bb_en
  rw [bb_ws_nat hw s (Nat.le_refl _), decide_eq_true_iff, nI_leI (by omega) (by omega)]
theorem bb_ws_none {w : Nat → Int32} {s : Int32} {n : Nat} (h : ∀ i, i < n → bb_hb s i = false) : bb_ws w s n = 0 := by
  induction n with
  | zero => rfl
  | succ n ih => simp only [bb_ws, h n (by omega)]; simpa using ih (fun i hi => h i (by omega))
theorem bb_en_none {w : Nat → Int32} {k s : Int32} (hk : bb_kok k) (h : ∀ i, i < 10 → bb_hb s i = false) : bb_en w k s = false := by
  obtain ⟨a, h1, h2, rfl⟩ := hk
  unfold bb_en
  rw [bb_ws_none h]
  exact decide_eq_false (nI_nle (by omega) (by omega))
/-! the tie -/
def bb_ok (w : Nat → Int32) (k : Int32) (pr vo vf vt : Nat → Int32) : Prop :=
  bb_wok w ∧ bb_kok k ∧ (∀ n, n < 10 → ∃ a : Nat, a ≤ 30 ∧ pr n = nI a) ∧
  (∀ b, b < 31 → bb_lo (vo b) ∧ (vf b = -1 ↔ vo b = 0) ∧ (vf b = -1 ∨ ∃ v : Nat, v < 10 ∧ vf b = nI v)) ∧
  ∀ n, n < 10 → ∀ b, b < 31 → vt (31 * n + b) = if bb_hb (vo b) n = true then vf b else -1
section Tie
variable {w : Nat → Int32} {k : Int32} {pr vo vf vt : Nat → Int32}
theorem bb_vt_ne (h : bb_ok w k pr vo vf vt) {n b : Nat} (hn : n < 10) (hb : b < 31) : decide (vt (31 * n + b) ≠ -1) = bb_hb (vo b) n := by
  obtain ⟨-, -, -, h4, h5⟩ := h
  rw [h5 n hn b hb]
  cases hh : bb_hb (vo b) n with
  | false => simp
  | true =>
    obtain ⟨hl, h6, -⟩ := h4 b hb
    have : vf b ≠ -1 := fun z => (bb_lo_ne0 hl).mpr ⟨n, hn, hh⟩ (h6.mp z)
    simp [this]
theorem bb_vt_eq (h : bb_ok w k pr vo vf vt) {n b v : Nat} (hn : n < 10) (hb : b < 31) (hv : v < 10) : decide (vt (31 * n + b) = nI v) = (bb_hb (vo b) n && decide (vf b = nI v)) := by
  obtain ⟨-, -, -, h4, h5⟩ := h
  rw [h5 n hn b hb]
  cases hh : bb_hb (vo b) n with
  | false =>
    have : ¬ (-1 : Int32) = nI v := fun z => bb_m1 (show v < 2 ^ 31 by omega) z.symm
    simp [this]
  | true => simp
theorem bb_e_op (h : bb_ok w k pr vo vf vt) {n b : Nat} (hn : n < 10) (hb : b < 31) : bb_rop pr vt b n = bb_op pr vo b n := by
  have h1 := bb_vt_ne h hn hb
  unfold bb_rop bb_op
  rw [← h1]
  by_cases h2 : vt (31 * n + b) = -1 <;> simp [h2]
theorem bb_e_ot (h : bb_ok w k pr vo vf vt) {b v : Nat} (hb : b < 31) (hv : v < 10) : bb_rot vt b (nI v) = !bb_only vf b (nI v) := by
  obtain ⟨-, -, -, h4, h5⟩ := id h
  obtain ⟨hl, h6, h7⟩ := h4 b hb
  apply bb_bool
  unfold bb_rot bb_only
  rw [bb_ex_iff]
  constructor
  · intro ⟨n, hn, hx⟩
    simp only [Bool.and_eq_true, decide_eq_true_iff] at hx
    rw [h5 n hn b hb] at hx
    cases hh : bb_hb (vo b) n with
    | false => rw [hh] at hx; simp at hx
    | true => rw [hh] at hx; simp at hx; simp [hx]
  · intro hx
    simp at hx
    have h0 : vo b ≠ 0 := fun z => hx.1 (h6.mpr z)
    obtain ⟨n, hn, hh⟩ := (bb_lo_ne0 hl).mp h0
    refine ⟨n, hn, ?_⟩
    rw [h5 n hn b hb, hh]
    simp [hx]
theorem bb_e_can (h : bb_ok w k pr vo vf vt) {b v : Nat} (hb : b < 31) (hv : v < 10) : bb_rcan w k pr vt b (nI v) = (bb_only vf b (nI v) && bb_way w k pr vo b) := by
  unfold bb_rcan
  rw [bb_e_ot h hb hv]
  cases ho : bb_only vf b (nI v) with
  | false => simp
  | true =>
    simp only [Bool.not_true, Bool.not_false, Bool.true_and]
    unfold bb_way
    apply bb_en_congr
    intro i hi
    rw [bb_hb_bl10 hi, bb_hb_or (by omega), bb_hb_bl10 hi, bb_vt_eq h hi hb hv, bb_e_op h hi hb]
    cases hh : bb_hb (vo b) i with
    | false => simp
    | true =>
      obtain ⟨-, -, -, h4, -⟩ := id h
      obtain ⟨hl, h6, -⟩ := h4 b hb
      have h8 : vf b ≠ -1 := fun z => (bb_lo_ne0 hl).mpr ⟨i, hi, hh⟩ (h6.mp z)
      unfold bb_only at ho
      simp [h8] at ho
      simp [ho]
theorem bb_e_saf (h : bb_ok w k pr vo vf vt) {b v : Nat} (hb : b ≤ 31) (hv : v < 10) : bb_rsaf w k pr vt b (nI v) = bb_saf w k pr vo vf b (nI v) := by
  unfold bb_rsaf bb_saf
  apply bb_al_congr
  intro c hc
  apply bb_bool
  rw [bb_al_iff]
  obtain ⟨-, -, -, h4, -⟩ := id h
  obtain ⟨hl, h6, h7⟩ := h4 c (by omega)
  constructor
  · intro hx
    cases hw : bb_way w k pr vo c with
    | false => simp
    | true =>
      simp only [Bool.and_true, Bool.not_eq_true', decide_eq_false_iff_not, Classical.not_not, ne_eq]
      rcases h7 with h7 | ⟨t, ht, h7⟩
      · exfalso
        have hy := hx (if v = 0 then 1 else 0) (by split <;> omega)
        unfold bb_rsafI at hy
        rw [bb_e_can h (by omega) (by split <;> omega), hw] at hy
        unfold bb_only at hy
        simp only [h7, decide_true, Bool.true_or, Bool.and_true, Bool.not_eq_true', decide_eq_false_iff_not, ne_eq, Classical.not_not] at hy
        rw [nI_eq (by split <;> omega) (by omega)] at hy
        split at hy <;> omega
      · have hy := hx t ht
        unfold bb_rsafI at hy
        rw [bb_e_can h (by omega) ht, hw] at hy
        unfold bb_only at hy
        simp only [h7, decide_true, Bool.or_true, Bool.and_true, Bool.not_eq_true', decide_eq_false_iff_not, ne_eq, Classical.not_not] at hy
        rw [h7]; exact hy
  · intro hx u hu
    unfold bb_rsafI
    rw [bb_e_can h (by omega) hu]
    cases hw : bb_way w k pr vo c with
    | false => simp
    | true =>
      rw [hw] at hx
      simp only [Bool.and_true, Bool.not_eq_true', decide_eq_false_iff_not, Classical.not_not, ne_eq] at hx
      unfold bb_only
      rw [hx, decide_eq_false (bb_m1 (show v < 2 ^ 31 by omega))]
      by_cases hq : nI u = nI v
      · simp [hq]
      · have : ¬ nI v = nI u := fun z => hq z.symm
        simp [this]
theorem bb_e_ch (h : bb_ok w k pr vo vf vt) {b : Nat} (hb : b < 31) : bb_rch w k vt b = bb_cho w k vo vf b := by
  obtain ⟨-, hk, -, h4, -⟩ := id h
  obtain ⟨hl, h6, h7⟩ := h4 b hb
  have hp : ∀ v, v < 10 → bb_en w k (bb_bl (fun n => decide (vt (31 * n + b) = nI v)) 10) = (decide (vf b = nI v) && bb_en w k (vo b)) := by
    intro v hv
    by_cases hq : vf b = nI v
    · rw [decide_eq_true hq, Bool.true_and]
      apply bb_en_congr
      intro i hi
      rw [bb_hb_bl10 hi, bb_vt_eq h hi hb hv, decide_eq_true hq, Bool.and_true]
    · rw [decide_eq_false hq, Bool.false_and]
      apply bb_en_none hk
      intro i hi
      rw [bb_hb_bl10 hi, bb_vt_eq h hi hb hv, decide_eq_false hq, Bool.and_false]
  unfold bb_rch bb_cho
  rw [bb_fi_congr hp]
  rcases h7 with h7 | ⟨t, ht, h7⟩
  · have h0 : vo b = 0 := h6.mp h7
    have he : bb_en w k (vo b) = false := by rw [h0]; exact bb_en_none hk (fun i hi => bb_hb_0 (by omega))
    rw [he]
    simp only [Bool.and_false]
    rw [bb_fi_none (by rw [bb_al_iff]; intro i _; rfl)]
    rfl
  · cases he : bb_en w k (vo b) with
    | false =>
      simp only [Bool.and_false]
      rw [bb_fi_none (by rw [bb_al_iff]; intro i _; rfl)]
      rfl
    | true =>
      rw [bb_fi_hit (j := t) _ _ ht]
      · simp [h7]
      · rw [bb_al_iff]
        intro i hi
        have : ¬ nI t = nI i := fun z => by rw [nI_eq (by omega) (by omega)] at z; omega
        simp [h7, this]
      · simp [h7]
end Tie
