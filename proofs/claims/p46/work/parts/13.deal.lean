/-! Deal -/
def PA (w : e_W) (a N : Nat) (lo hi : Int) (P : Int → Int) : Prop := ∃ f, w a = some (e_ia N f) ∧ ∀ j, lo ≤ j → j < hi → f j = P j
def DW (fl dg sc : Int) (A B : Int → Int) : Prop := (fl = 0 ∨ fl = 1) ∧ (0 ≤ dg ∧ dg ≤ 6) ∧ (0 ≤ sc ∧ sc ≤ 7) ∧ (∀ j, 1 ≤ j → j < 8 → -1 ≤ A j ∧ A j < 1000003) ∧ (∀ j, 0 ≤ j → j < sc → 0 ≤ B j ∧ B j < 36000109)
abbrev DO (d : Nat) (fl dg sc : Int) : e_C := .inl (0, [.int (eI fl), .int (eI dg), .int (eI sc), .ref (d + 1), .ref (d + 2)])
/-- a Deal at d, its rows behind it -/
def DL (w : e_W) (d : Nat) (fl dg sc : Int) (A B : Int → Int) : Prop := w d = some (DO d fl dg sc) ∧ PA w (d + 1) 8 1 8 A ∧ PA w (d + 2) 7 0 sc B ∧ DW fl dg sc A B
/-- nothing else changed -/
def DF (w w' : e_W) (d : Nat) : Prop := ∀ q, q ≠ d → q ≠ d + 1 → q ≠ d + 2 → w' q = w q
def stK (A : Int → Int) : Nat → Int
  | 0 => 0
  | k + 1 => stK A k + (if A ((k : Int) + 1) ≠ -1 then 2 ^ k else 0)
theorem stK_rg (A : Int → Int) (k : Nat) : 0 ≤ stK A k ∧ stK A k < 2 ^ k := by
  induction k with
  | zero => unfold stK; decide
  | succ k ih =>
    unfold stK
    have hp : (0 : Int) < 2 ^ k := Int.pow_pos (by omega)
    rw [Int.pow_succ]
    split <;> omega
theorem eI_or_k : ∀ k : Nat, k < 7 → ∀ s : Nat, s < 2 ^ k → eI (s : Int) ||| eI (2 ^ k) = eI ((s : Int) + 2 ^ k) := by decide +kernel
theorem eI_or {k : Nat} {s : Int} (hk : k < 7) (h0 : 0 ≤ s) (h1 : s < 2 ^ k) : eI s ||| eI (2 ^ k) = eI (s + 2 ^ k) := by
  obtain ⟨t, rfl⟩ : ∃ t : Nat, (t : Int) = s := ⟨s.toNat, by omega⟩
  exact eI_or_k k hk t (by exact_mod_cast h1)
def st7 (A : Int → Int) : Int := stK A 7
theorem st7_rg (A : Int → Int) : 0 ≤ st7 A ∧ st7 A < 128 := stK_rg A 7
theorem eI_and {s t : Int} (hs0 : 0 ≤ s) (hs1 : s < 128) (ht0 : 0 ≤ t) (ht1 : t < 128) : eI s &&& eI t = eI ((s.toNat &&& t.toNat : Nat) : Int) := by
  obtain ⟨a, rfl⟩ : ∃ a : Nat, (a : Int) = s := ⟨s.toNat, by omega⟩
  obtain ⟨b, rfl⟩ : ∃ b : Nat, (b : Int) = t := ⟨t.toNat, by omega⟩
  apply Int32.toBitVec_inj.mp
  rw [Int32.toBitVec_and]
  show BitVec.ofInt 32 _ &&& BitVec.ofInt 32 _ = BitVec.ofInt 32 _
  rw [BitVec.ofInt_natCast, BitVec.ofInt_natCast, BitVec.ofInt_natCast]
  apply BitVec.eq_of_toNat_eq
  rw [BitVec.toNat_and, BitVec.toNat_ofNat, BitVec.toNat_ofNat, BitVec.toNat_ofNat]
  have h1 : a &&& b ≤ a := Nat.and_le_left
  simp only [Int.toNat_natCast]
  rw [Nat.mod_eq_of_lt (by omega), Nat.mod_eq_of_lt (by omega), Nat.mod_eq_of_lt (by omega)]
/-- the first holders with a share: their set, and how many are wanting -/
def fsK (A : Int → Int) (dg : Int) : Nat → Int × Int
  | 0 => (0, dg + 1)
  | k + 1 => if 0 < (fsK A dg k).2 ∧ A ((k : Int) + 1) ≠ -1 then ((fsK A dg k).1 + 2 ^ k, (fsK A dg k).2 - 1) else fsK A dg k
theorem fsK_rg (A : Int → Int) (dg : Int) (h : 0 ≤ dg) (k : Nat) : 0 ≤ (fsK A dg k).1 ∧ (fsK A dg k).1 < 2 ^ k ∧ 0 ≤ (fsK A dg k).2 ∧ (fsK A dg k).2 ≤ dg + 1 := by
  induction k with
  | zero => unfold fsK; dsimp only; refine ⟨by omega, by decide, by omega, by omega⟩
  | succ k ih =>
    unfold fsK
    have hp : (0 : Int) < 2 ^ k := Int.pow_pos (by omega)
    rw [Int.pow_succ]
    split
    · dsimp only; omega
    · omega
theorem fsK_stop (A : Int → Int) (dg : Int) {k : Nat} (h : (fsK A dg k).2 = 0) : ∀ j, k ≤ j → fsK A dg j = fsK A dg k := by
  intro j hj
  induction j with
  | zero => have : k = 0 := by omega
            rw [this]
  | succ j ih =>
    by_cases hk : k = j + 1
    · rw [hk]
    · have h9 := ih (by omega)
      have e9 : fsK A dg (j + 1) = if 0 < (fsK A dg j).2 ∧ A ((j : Int) + 1) ≠ -1 then ((fsK A dg j).1 + 2 ^ j, (fsK A dg j).2 - 1) else fsK A dg j := rfl
      rw [e9, h9, if_neg (by omega)]
def fs7 (A : Int → Int) (dg : Int) : Int := if (fsK A dg 7).2 = 0 then (fsK A dg 7).1 else 0
abbrev thr (A : Int → Int) (set : Int) : Prop := (((st7 A).toNat &&& set.toNat : Nat) : Int) = set
set_option maxHeartbeats 4000000 in
set_option maxRecDepth 100000 in
theorem c_X0_clear {K : e_K} {l : Launch} {w : e_W} {n : Nat} {d : Nat} {x0 x1 x2 : Int} {f : Int → Int} (h0 : w d = some (DO d x0 x1 x2)) (hf : w (d + 1) = some (e_ia 8 f)) : e_Met K l yX0_clear (Cond.code yX0_clear cX0_clear 2 none :: e_TB) (0) (0) [.ref d] w n (fun r w' n' => r = none ∧ n' = n ∧ w' d = some (DO d 0 0 0) ∧ (∃ f', w' (d + 1) = some (e_ia 8 f') ∧ ∀ j, 0 ≤ j → j < 8 → f' j = -1) ∧ ∀ q, q ≠ d → q ≠ d + 1 → w' q = w q) (e_px0) := by
  refine e_ofV rfl (Nat.le_of_ble_eq_true rfl) ?_
  intro P9 E9 S9 M9 A9 B9 T9 C9 F hnm
  have lp : ∀ (N : Nat) (i : Int) (wl : e_W) (f : Int → Int), (8 - i).toNat < N → (0 ≤ i ∧ i ≤ 8 ∧ wl d = some (DO d 0 0 0) ∧ wl (d + 1) = some (e_ia 8 f) ∧ (∀ j, 0 ≤ j → j < i → f j = -1) ∧ ∀ q, q ≠ d → q ≠ d + 1 → wl q = w q) → e_V K P9 l E9 (0) (0) S9 M9 A9 B9 T9 C9 2 (fun r w' n' => r = none ∧ n' = n ∧ w' d = some (DO d 0 0 0) ∧ (∃ f', w' (d + 1) = some (e_ia 8 f') ∧ ∀ j, 0 ≤ j → j < 8 → f' j = -1) ∧ ∀ q, q ≠ d → q ≠ d + 1 → w' q = w q) (e_px0) 17 [(0, .ref d), (1, .int (eI i))] [] wl n (0) := by
    intro N
    induction N with
    | zero => intro i wl f hN; exact absurd hN (Nat.not_lt_zero _)
    | succ N ih =>
      intro i wl f hN ⟨h1, h2, h3, h4, h5, h6⟩
      refine e_iload_n F dX0_clear_17 rfl ?_
      refine e_aload_n F dX0_clear_18 rfl ?_
      refine e_get (ci := 0) (fi := 3) (q := (RX0, TX0, 5)) F (by first | assumption | exact e_up_s | (rw [e_up_n (by first | assumption | omega)]; first | assumption | exact e_up_s | (rw [e_up_n (by first | assumption | omega)]; first | assumption | exact e_up_s | (rw [e_up_n (by first | assumption | omega)]; first | assumption | exact e_up_s))) | exact hD.1 | exact hD1.1 | exact hD2.1 | exact gD.1 | exact gD1.1 | exact gD2.1 | exact gQ.1 | exact hQ.1 | exact gS.1 | exact hS.1 | exact zD.1) rfl (by decide) w_fl_RX0_9 (by rfl) dX0_clear_19 ?_
      refine e_alenI F (by first | assumption | exact e_up_s | (rw [e_up_n (by first | assumption | omega)]; first | assumption | exact e_up_s | (rw [e_up_n (by first | assumption | omega)]; first | assumption | exact e_up_s | (rw [e_up_n (by first | assumption | omega)]; first | assumption | exact e_up_s))) | exact hD.1 | exact hD1.1 | exact hD2.1 | exact gD.1 | exact gD1.1 | exact gD2.1 | exact gQ.1 | exact hQ.1 | exact gS.1 | exact hS.1 | exact zD.1) dX0_clear_22 ?_
      refine e_icmp_ge F 39 dX0_clear_23 (by decide) (⟨by omega, by omega⟩) (⟨by omega, by omega⟩) (fun c_23 => ?_) (fun c_23 => ?_)
      · refine e_vret F rfl (by omega) ?_ dX0_clear_39
        exact ⟨rfl, rfl, h3, ⟨f, h4, fun j j0 j1 => h5 j j0 (by omega)⟩, h6⟩
      · refine e_aload_n F dX0_clear_26 rfl ?_
        refine e_get (ci := 0) (fi := 3) (q := (RX0, TX0, 5)) F (by first | assumption | exact e_up_s | (rw [e_up_n (by first | assumption | omega)]; first | assumption | exact e_up_s | (rw [e_up_n (by first | assumption | omega)]; first | assumption | exact e_up_s | (rw [e_up_n (by first | assumption | omega)]; first | assumption | exact e_up_s))) | exact hD.1 | exact hD1.1 | exact hD2.1 | exact gD.1 | exact gD1.1 | exact gD2.1 | exact gQ.1 | exact hQ.1 | exact gS.1 | exact hS.1 | exact zD.1) rfl (by decide) w_fl_RX0_9 (by rfl) dX0_clear_27 ?_
        refine e_iload_n F dX0_clear_30 rfl ?_
        refine e_iconst F dX0_clear_31 ?_
        refine e_iast F (by first | assumption | exact e_up_s | (rw [e_up_n (by first | assumption | omega)]; first | assumption | exact e_up_s | (rw [e_up_n (by first | assumption | omega)]; first | assumption | exact e_up_s | (rw [e_up_n (by first | assumption | omega)]; first | assumption | exact e_up_s))) | exact hD.1 | exact hD1.1 | exact hD2.1 | exact gD.1 | exact gD1.1 | exact gD2.1 | exact gQ.1 | exact hQ.1 | exact gS.1 | exact hS.1 | exact zD.1) (by omega) (by omega) (by first | decide | omega) dX0_clear_32 ?_
        refine e_iinc F dX0_clear_33 rfl (by decide) ?_
        refine e_goto F 17 dX0_clear_36 (by decide) ?_
        refine e_go (ih (i + 1) (e_up wl (d + 1) (e_ia 8 (e_fu f i (-1)))) (e_fu f i (-1)) (by omega) ⟨by omega, by omega, by rw [e_up_n (by omega)]; exact h3, e_up_s, fun j j0 j1 => ?_, fun q hq1 hq2 => by rw [e_up_n hq2]; exact h6 q hq1 hq2⟩) (And.intro rfl (And.intro rfl trivial))
        unfold e_fu
        split
        · rfl
        · exact h5 j j0 (by omega)
  refine e_aload_n F dX0_clear_0 rfl ?_
  refine e_iconst F dX0_clear_1 ?_
  refine e_set (host := "") (ci := 0) (fi := 0) (q := (RX0, TX0, 5)) F (by first | assumption | exact e_up_s | (rw [e_up_n (by first | assumption | omega)]; first | assumption | exact e_up_s | (rw [e_up_n (by first | assumption | omega)]; first | assumption | exact e_up_s | (rw [e_up_n (by first | assumption | omega)]; first | assumption | exact e_up_s))) | exact hD.1 | exact hD1.1 | exact hD2.1 | exact gD.1 | exact gD1.1 | exact gD2.1 | exact gQ.1 | exact hQ.1 | exact gS.1 | exact hS.1 | exact zD.1) rfl (by decide) w_fl_RX0_21 rfl (by rfl) (by rfl) (Nat.le_of_ble_eq_true rfl) dX0_clear_2 ?_
  refine e_aload_n F dX0_clear_5 rfl ?_
  refine e_iconst F dX0_clear_6 ?_
  refine e_set (host := "") (ci := 0) (fi := 1) (q := (RX0, TX0, 5)) F (by first | assumption | exact e_up_s | (rw [e_up_n (by first | assumption | omega)]; first | assumption | exact e_up_s | (rw [e_up_n (by first | assumption | omega)]; first | assumption | exact e_up_s | (rw [e_up_n (by first | assumption | omega)]; first | assumption | exact e_up_s))) | exact hD.1 | exact hD1.1 | exact hD2.1 | exact gD.1 | exact gD1.1 | exact gD2.1 | exact gQ.1 | exact hQ.1 | exact gS.1 | exact hS.1 | exact zD.1) rfl (by decide) w_fl_RX0_25 rfl (by rfl) (by rfl) (Nat.le_of_ble_eq_true rfl) dX0_clear_7 ?_
  refine e_aload_n F dX0_clear_10 rfl ?_
  refine e_iconst F dX0_clear_11 ?_
  refine e_set (host := "") (ci := 0) (fi := 2) (q := (RX0, TX0, 5)) F (by first | assumption | exact e_up_s | (rw [e_up_n (by first | assumption | omega)]; first | assumption | exact e_up_s | (rw [e_up_n (by first | assumption | omega)]; first | assumption | exact e_up_s | (rw [e_up_n (by first | assumption | omega)]; first | assumption | exact e_up_s))) | exact hD.1 | exact hD1.1 | exact hD2.1 | exact gD.1 | exact gD1.1 | exact gD2.1 | exact gQ.1 | exact hQ.1 | exact gS.1 | exact hS.1 | exact zD.1) rfl (by decide) w_fl_RX0_29 rfl (by rfl) (by rfl) (Nat.le_of_ble_eq_true rfl) dX0_clear_12 ?_
  refine e_iconst F dX0_clear_15 ?_
  refine e_istore_n F dX0_clear_16 (by decide) ?_
  refine e_go (lp 9 0 _ f (by omega) ⟨by omega, by omega, e_up_s, ?_, fun j _ _ => by omega, fun q hq1 hq2 => by simp only [e_up, if_neg hq1]⟩) (And.intro rfl (And.intro rfl trivial))
  have hne : d + 1 ≠ d := by omega
  simp only [e_up, if_neg hne]
  exact hf
set_option maxHeartbeats 4000000 in
set_option maxRecDepth 100000 in
theorem c_X0_start {K : e_K} {l : Launch} {w : e_W} {n : Nat} {d : Nat} {fl dg sc : Int} {A B : Int → Int} (hD : DL w d fl dg sc A B) {t : Int} (ht : 0 ≤ t ∧ t ≤ 6) : e_Met K l yX0_start (Cond.code yX0_start cX0_start 2 none :: e_TB) (1) (0) [.ref d, .int (eI t)] w n (fun r w' n' => r = none ∧ n' = n ∧ DL w' d 1 t 0 (fun _ => -1) B ∧ DF w w' d) (e_px0) := by
  refine e_ofV rfl (Nat.le_of_ble_eq_true rfl) ?_
  intro P9 E9 S9 M9 A9 B9 T9 C9 F hnm
  obtain ⟨h0, ⟨f, hf, hfA⟩, ⟨g, hg, hgB⟩, hfl, hdg, hsc, hA, hB⟩ := hD
  refine e_aload_n F dX0_start_0 rfl ?_
  refine e_callVV F u_X0_clear (by rfl) (c_X0_clear h0 hf) (by first | assumption | exact e_up_s | (rw [e_up_n (by first | assumption | omega)]; first | assumption | exact e_up_s | (rw [e_up_n (by first | assumption | omega)]; first | assumption | exact e_up_s | (rw [e_up_n (by first | assumption | omega)]; first | assumption | exact e_up_s))) | exact hD.1 | exact hD1.1 | exact hD2.1 | exact gD.1 | exact gD1.1 | exact gD2.1 | exact gQ.1 | exact hQ.1 | exact gS.1 | exact hS.1 | exact zD.1) rfl rfl w_ml_RX0_18 dX0_start_1 (by rfl) (Nat.le_of_ble_eq_true rfl) (by decide) (by omega) (fun _ _ _ h _ => False.elim h) (fun r_1 w_1 n_1 h_1 hn_1 => ?_)
  obtain ⟨rfl, rfl, g1, ⟨f2, g2, g3⟩, g4⟩ := h_1
  refine e_aload_n F dX0_start_4 rfl ?_
  refine e_iconst F dX0_start_5 ?_
  refine e_set (host := "") (ci := 0) (fi := 0) (q := (RX0, TX0, 5)) F (by first | assumption | exact e_up_s | (rw [e_up_n (by first | assumption | omega)]; first | assumption | exact e_up_s | (rw [e_up_n (by first | assumption | omega)]; first | assumption | exact e_up_s | (rw [e_up_n (by first | assumption | omega)]; first | assumption | exact e_up_s))) | exact hD.1 | exact hD1.1 | exact hD2.1 | exact gD.1 | exact gD1.1 | exact gD2.1 | exact gQ.1 | exact hQ.1 | exact gS.1 | exact hS.1 | exact zD.1) rfl (by decide) w_fl_RX0_21 rfl (by rfl) (by rfl) (Nat.le_of_ble_eq_true rfl) dX0_start_6 ?_
  refine e_aload_n F dX0_start_9 rfl ?_
  refine e_iload_n F dX0_start_10 rfl ?_
  refine e_set (host := "") (ci := 0) (fi := 1) (q := (RX0, TX0, 5)) F (by first | assumption | exact e_up_s | (rw [e_up_n (by first | assumption | omega)]; first | assumption | exact e_up_s | (rw [e_up_n (by first | assumption | omega)]; first | assumption | exact e_up_s | (rw [e_up_n (by first | assumption | omega)]; first | assumption | exact e_up_s))) | exact hD.1 | exact hD1.1 | exact hD2.1 | exact gD.1 | exact gD1.1 | exact gD2.1 | exact gQ.1 | exact hQ.1 | exact gS.1 | exact hS.1 | exact zD.1) rfl (by decide) w_fl_RX0_25 rfl (by rfl) (by rfl) (Nat.le_of_ble_eq_true rfl) dX0_start_11 ?_
  refine e_vret F rfl (by omega) ?_ dX0_start_14
  have hne : d + 1 ≠ d := by omega
  have hne2 : d + 2 ≠ d := by omega
  refine ⟨rfl, rfl, ⟨e_up_s, ⟨f2, by simp only [e_up, if_neg hne]; exact g2, fun j j0 j1 => g3 j (by omega) j1⟩, ⟨g, by simp only [e_up, if_neg hne2]; rw [g4 _ hne2 (by omega)]; exact hg, fun j j0 j1 => by omega⟩, Or.inr rfl, ht, by omega, fun j _ _ => by dsimp only; omega, fun j _ _ => by omega⟩, fun q hq1 hq2 hq3 => ?_⟩
  simp only [e_up, if_neg hq1]
  exact g4 q hq1 hq2
set_option maxHeartbeats 4000000 in
set_option maxRecDepth 100000 in
theorem c_X0_init {K : e_K} {l : Launch} {w : e_W} {n : Nat} {d : Nat} {v3 v4 : Value} (h0 : w d = some (.inl (0, [.int (eI 0), .int (eI 0), .int (eI 0), v3, v4]))) (hn : n = d + 1) : e_Met K l yX0_init (Cond.code yX0_init cX0_init 1 none :: e_TB) (2) (2) [.ref d] w n (fun r w' n' => r = none ∧ n' = d + 3 ∧ DL w' d 0 0 0 (fun _ => -1) (fun _ => 0) ∧ ∀ q, q < d → w' q = w q) (e_px0) := by
  refine e_ofV rfl (Nat.le_of_ble_eq_true rfl) ?_
  intro P9 E9 S9 M9 A9 B9 T9 C9 F hnm
  subst hn
  refine e_aload_n F dX0_init_0 rfl ?_
  refine e_oinit F w_ml_RX0_3 w_im_java_lang_Object__init____V w_co_oinit (Nat.le_of_ble_eq_true rfl) (by decide) dX0_init_1 ?_
  refine e_aload_n F dX0_init_4 rfl ?_
  refine e_bipush F dX0_init_5 (by decide) ?_
  refine e_newI F (N := 8) (by first | rfl | omega) (by decide) (by omega) w_ac_int dX0_init_7 ?_
  refine e_setF (host := "") (ci := 0) (fi := 3) (q := (RX0, TX0, 5)) F (by first | assumption | exact e_up_s | (rw [e_up_n (by first | assumption | omega)]; first | assumption | exact e_up_s | (rw [e_up_n (by first | assumption | omega)]; first | assumption | exact e_up_s | (rw [e_up_n (by first | assumption | omega)]; first | assumption | exact e_up_s))) | exact hD.1 | exact hD1.1 | exact hD2.1 | exact gD.1 | exact gD1.1 | exact gD2.1 | exact gQ.1 | exact hQ.1 | exact gS.1 | exact hS.1 | exact zD.1) rfl (by decide) w_fl_RX0_9 hnm rfl rfl rfl (by rfl) (Nat.le_of_ble_eq_true rfl) dX0_init_9 ?_
  refine e_aload_n F dX0_init_12 rfl ?_
  refine e_bipush F dX0_init_13 (by decide) ?_
  refine e_newI F (N := 7) (by first | rfl | omega) (by decide) (by omega) w_ac_int dX0_init_15 ?_
  refine e_setF (host := "") (ci := 0) (fi := 4) (q := (RX0, TX0, 5)) F (by first | assumption | exact e_up_s | (rw [e_up_n (by first | assumption | omega)]; first | assumption | exact e_up_s | (rw [e_up_n (by first | assumption | omega)]; first | assumption | exact e_up_s | (rw [e_up_n (by first | assumption | omega)]; first | assumption | exact e_up_s))) | exact hD.1 | exact hD1.1 | exact hD2.1 | exact gD.1 | exact gD1.1 | exact gD2.1 | exact gQ.1 | exact hQ.1 | exact gS.1 | exact hS.1 | exact zD.1) rfl (by decide) w_fl_RX0_15 hnm rfl rfl rfl (by rfl) (Nat.le_of_ble_eq_true rfl) dX0_init_17 ?_
  refine e_aload_n F dX0_init_20 rfl ?_
  have hne1 : d + 1 ≠ d := by omega
  have hne2 : d + 1 + 1 ≠ d := by omega
  have hne3 : d + 1 + 1 ≠ d + 1 := by omega
  have hne4 : d + 1 ≠ d + 1 + 1 := by omega
  refine e_callVV F u_X0_clear (by rfl) (c_X0_clear (x0 := 0) (x1 := 0) (x2 := 0) e_up_s (f := fun _ => 0) (by simp only [e_up, if_neg hne1, if_neg hne4]; rfl)) (by first | assumption | exact e_up_s | (rw [e_up_n (by first | assumption | omega)]; first | assumption | exact e_up_s | (rw [e_up_n (by first | assumption | omega)]; first | assumption | exact e_up_s | (rw [e_up_n (by first | assumption | omega)]; first | assumption | exact e_up_s))) | exact hD.1 | exact hD1.1 | exact hD2.1 | exact gD.1 | exact gD1.1 | exact gD2.1 | exact gQ.1 | exact hQ.1 | exact gS.1 | exact hS.1 | exact zD.1) rfl rfl w_ml_RX0_18 dX0_init_21 (by rfl) (Nat.le_of_ble_eq_true rfl) (by decide) (by omega) (fun _ _ _ h _ => False.elim h) (fun r_21 w_21 n_21 h_21 hn_21 => ?_)
  obtain ⟨rfl, rfl, g1, ⟨f2, g2, g3⟩, g4⟩ := h_21
  refine e_vret F rfl (by omega) ?_ dX0_init_24
  refine ⟨rfl, rfl, ⟨g1, ⟨f2, g2, fun j j0 j1 => g3 j (by omega) j1⟩, ⟨fun _ => 0, ?_, fun j _ _ => rfl⟩, Or.inl rfl, by omega, by omega, fun j _ _ => by dsimp only; omega, fun j _ _ => by omega⟩, fun q hq => ?_⟩
  · rw [g4 _ (by omega) (by omega)]
    show e_up _ d _ (d + 1 + 1) = _
    rw [e_up_n hne2, e_up_s]
  · rw [g4 q (by omega) (by omega), e_up_n (by omega), e_up_n (by omega), e_up_n (by omega), e_up_n (by omega)]
set_option maxHeartbeats 4000000 in
set_option maxRecDepth 100000 in
theorem c_X0_isEmpty {K : e_K} {l : Launch} {w : e_W} {n : Nat} {d : Nat} {fl dg sc : Int} {A B : Int → Int} (hD : DL w d fl dg sc A B) : e_Met K l yX0_isEmpty (Cond.code yX0_isEmpty cX0_isEmpty 1 (Option.some .boolean) :: e_TB) (0) (0) [.ref d] w n (fun r w' n' => r = some (.int (eI (b01 (fl = 0)))) ∧ w' = w ∧ n' = n) (e_px0) := by
  refine e_ofV rfl (Nat.le_of_ble_eq_true rfl) ?_
  intro P9 E9 S9 M9 A9 B9 T9 C9 F hnm
  obtain ⟨h0, ⟨f, hf, hfA⟩, ⟨g, hg, hgB⟩, hfl, hdg, hsc, hA, hB⟩ := hD
  refine e_aload_n F dX0_isEmpty_0 rfl ?_
  refine e_get (ci := 0) (fi := 0) (q := (RX0, TX0, 5)) F (by first | assumption | exact e_up_s | (rw [e_up_n (by first | assumption | omega)]; first | assumption | exact e_up_s | (rw [e_up_n (by first | assumption | omega)]; first | assumption | exact e_up_s | (rw [e_up_n (by first | assumption | omega)]; first | assumption | exact e_up_s))) | exact hD.1 | exact hD1.1 | exact hD2.1 | exact gD.1 | exact gD1.1 | exact gD2.1 | exact gQ.1 | exact hQ.1 | exact gS.1 | exact hS.1 | exact zD.1) rfl (by decide) w_fl_RX0_21 (by rfl) dX0_isEmpty_1 ?_
  refine e_if_ne F 11 dX0_isEmpty_4 (by decide) (by rcases hfl with h | h <;> rw [h] <;> decide) (fun c_4 => ?_) (fun c_4 => ?_)
  · refine e_iconst F dX0_isEmpty_11 ?_
    refine e_zret F rfl (by omega) (by omega) ?_ dX0_isEmpty_12
    refine ⟨?_, rfl, rfl⟩
    first | rw [b01_f (by omega)] | rw [b01_t (by omega)]
  · refine e_iconst F dX0_isEmpty_7 ?_
    refine e_goto F 12 dX0_isEmpty_8 (by decide) ?_
    refine e_zret F rfl (by omega) (by omega) ?_ dX0_isEmpty_12
    refine ⟨?_, rfl, rfl⟩
    first | rw [b01_f (by omega)] | rw [b01_t (by omega)]
set_option maxHeartbeats 4000000 in
set_option maxRecDepth 100000 in
theorem c_X0_shareAt {K : e_K} {l : Launch} {w : e_W} {n : Nat} {d : Nat} {fl dg sc : Int} {A B : Int → Int} (hD : DL w d fl dg sc A B) {h : Int} (h1 : 1 ≤ h) (h2 : h ≤ 7) : e_Met K l yX0_shareAt (Cond.code yX0_shareAt cX0_shareAt 2 (Option.some .int) :: e_TB) (0) (0) [.ref d, .int (eI h)] w n (fun r w' n' => r = some (.int (eI (A h))) ∧ w' = w ∧ n' = n) (e_px0) := by
  refine e_ofV rfl (Nat.le_of_ble_eq_true rfl) ?_
  intro P9 E9 S9 M9 A9 B9 T9 C9 F hnm
  obtain ⟨h0, ⟨f, hf, hfA⟩, ⟨g, hg, hgB⟩, hfl, hdg, hsc, hA, hB⟩ := hD
  refine e_iload_n F dX0_shareAt_0 rfl ?_
  refine e_iconst F dX0_shareAt_1 ?_
  refine e_icmp_lt F 23 dX0_shareAt_2 (by decide) (⟨by omega, by omega⟩) (⟨by omega, by omega⟩) (fun c_2 => ?_) (fun c_2 => ?_)
  · exact absurd c_2 (by omega)
  · refine e_iload_n F dX0_shareAt_5 rfl ?_
    refine e_aload_n F dX0_shareAt_6 rfl ?_
    refine e_get (ci := 0) (fi := 3) (q := (RX0, TX0, 5)) F (by first | assumption | exact e_up_s | (rw [e_up_n (by first | assumption | omega)]; first | assumption | exact e_up_s | (rw [e_up_n (by first | assumption | omega)]; first | assumption | exact e_up_s | (rw [e_up_n (by first | assumption | omega)]; first | assumption | exact e_up_s))) | exact hD.1 | exact hD1.1 | exact hD2.1 | exact gD.1 | exact gD1.1 | exact gD2.1 | exact gQ.1 | exact hQ.1 | exact gS.1 | exact hS.1 | exact zD.1) rfl (by decide) w_fl_RX0_9 (by rfl) dX0_shareAt_7 ?_
    refine e_alenI F (by first | assumption | exact e_up_s | (rw [e_up_n (by first | assumption | omega)]; first | assumption | exact e_up_s | (rw [e_up_n (by first | assumption | omega)]; first | assumption | exact e_up_s | (rw [e_up_n (by first | assumption | omega)]; first | assumption | exact e_up_s))) | exact hD.1 | exact hD1.1 | exact hD2.1 | exact gD.1 | exact gD1.1 | exact gD2.1 | exact gQ.1 | exact hQ.1 | exact gS.1 | exact hS.1 | exact zD.1) dX0_shareAt_10 ?_
    refine e_icmp_ge F 23 dX0_shareAt_11 (by decide) (⟨by omega, by omega⟩) (⟨by omega, by omega⟩) (fun c_11 => ?_) (fun c_11 => ?_)
    · exact absurd c_11 (by omega)
    · refine e_aload_n F dX0_shareAt_14 rfl ?_
      refine e_get (ci := 0) (fi := 3) (q := (RX0, TX0, 5)) F (by first | assumption | exact e_up_s | (rw [e_up_n (by first | assumption | omega)]; first | assumption | exact e_up_s | (rw [e_up_n (by first | assumption | omega)]; first | assumption | exact e_up_s | (rw [e_up_n (by first | assumption | omega)]; first | assumption | exact e_up_s))) | exact hD.1 | exact hD1.1 | exact hD2.1 | exact gD.1 | exact gD1.1 | exact gD2.1 | exact gQ.1 | exact hQ.1 | exact gS.1 | exact hS.1 | exact zD.1) rfl (by decide) w_fl_RX0_9 (by rfl) dX0_shareAt_15 ?_
      refine e_iload_n F dX0_shareAt_18 rfl ?_
      refine e_iald F (by first | assumption | exact e_up_s | (rw [e_up_n (by first | assumption | omega)]; first | assumption | exact e_up_s | (rw [e_up_n (by first | assumption | omega)]; first | assumption | exact e_up_s | (rw [e_up_n (by first | assumption | omega)]; first | assumption | exact e_up_s))) | exact hD.1 | exact hD1.1 | exact hD2.1 | exact gD.1 | exact gD1.1 | exact gD2.1 | exact gQ.1 | exact hQ.1 | exact gS.1 | exact hS.1 | exact zD.1) (by omega) (by omega) (by first | decide | omega) dX0_shareAt_19 ?_
      refine e_goto F 24 dX0_shareAt_20 (by decide) ?_
      refine e_iret F rfl (by omega) ?_ dX0_shareAt_24
      exact ⟨by rw [hfA h h1 (by omega)], rfl, rfl⟩
set_option maxHeartbeats 4000000 in
set_option maxRecDepth 100000 in
theorem c_X0_hasShare {K : e_K} {l : Launch} {w : e_W} {n : Nat} {d : Nat} {fl dg sc : Int} {A B : Int → Int} (hD : DL w d fl dg sc A B) {h : Int} (h1 : 1 ≤ h) (h2 : h ≤ 7) : e_Met K l yX0_hasShare (Cond.code yX0_hasShare cX0_hasShare 2 (Option.some .boolean) :: e_TB) (1) (0) [.ref d, .int (eI h)] w n (fun r w' n' => r = some (.int (eI (b01 (A h ≠ -1)))) ∧ w' = w ∧ n' = n) (e_px0) := by
  refine e_ofV rfl (Nat.le_of_ble_eq_true rfl) ?_
  intro P9 E9 S9 M9 A9 B9 T9 C9 F hnm
  have hA := hD.2.2.2.2.2.2.1 h h1 (by omega)
  refine e_aload_n F dX0_hasShare_0 rfl ?_
  refine e_iload_n F dX0_hasShare_1 rfl ?_
  refine e_callVV F u_X0_shareAt (by rfl) (c_X0_shareAt hD h1 h2) hD.1 rfl rfl w_ml_RX0_32 dX0_hasShare_2 (by rfl) (Nat.le_of_ble_eq_true rfl) (by decide) (by omega) (fun _ _ _ h _ => False.elim h) (fun r_2 w_2 n_2 h_2 hn_2 => ?_)
  obtain ⟨rfl, ew_2, en_2⟩ := h_2
  rw [ew_2, en_2]
  refine e_iconst F dX0_hasShare_5 ?_
  refine e_icmp_eq F 13 dX0_hasShare_6 (by decide) (⟨by omega, by omega⟩) (⟨by omega, by omega⟩) (fun c_6 => ?_) (fun c_6 => ?_)
  · refine e_iconst F dX0_hasShare_13 ?_
    refine e_zret F rfl (by omega) (by omega) ?_ dX0_hasShare_14
    refine ⟨?_, rfl, rfl⟩
    first | rw [b01_f (by omega)] | rw [b01_t (by omega)]
  · refine e_iconst F dX0_hasShare_9 ?_
    refine e_goto F 14 dX0_hasShare_10 (by decide) ?_
    refine e_zret F rfl (by omega) (by omega) ?_ dX0_hasShare_14
    refine ⟨?_, rfl, rfl⟩
    first | rw [b01_f (by omega)] | rw [b01_t (by omega)]
set_option maxHeartbeats 4000000 in
set_option maxRecDepth 100000 in
theorem c_X0_hasSeals {K : e_K} {l : Launch} {w : e_W} {n : Nat} {d : Nat} {fl dg sc : Int} {A B : Int → Int} (hD : DL w d fl dg sc A B) : e_Met K l yX0_hasSeals (Cond.code yX0_hasSeals cX0_hasSeals 1 (Option.some .boolean) :: e_TB) (0) (0) [.ref d] w n (fun r w' n' => r = some (.int (eI (b01 (0 < sc)))) ∧ w' = w ∧ n' = n) (e_px0) := by
  refine e_ofV rfl (Nat.le_of_ble_eq_true rfl) ?_
  intro P9 E9 S9 M9 A9 B9 T9 C9 F hnm
  obtain ⟨h0, ⟨f, hf, hfA⟩, ⟨g, hg, hgB⟩, hfl, hdg, hsc, hA, hB⟩ := hD
  refine e_aload_n F dX0_hasSeals_0 rfl ?_
  refine e_get (ci := 0) (fi := 2) (q := (RX0, TX0, 5)) F (by first | assumption | exact e_up_s | (rw [e_up_n (by first | assumption | omega)]; first | assumption | exact e_up_s | (rw [e_up_n (by first | assumption | omega)]; first | assumption | exact e_up_s | (rw [e_up_n (by first | assumption | omega)]; first | assumption | exact e_up_s))) | exact hD.1 | exact hD1.1 | exact hD2.1 | exact gD.1 | exact gD1.1 | exact gD2.1 | exact gQ.1 | exact hQ.1 | exact gS.1 | exact hS.1 | exact zD.1) rfl (by decide) w_fl_RX0_29 (by rfl) dX0_hasSeals_1 ?_
  refine e_if_le F 11 dX0_hasSeals_4 (by decide) (⟨by omega, by omega⟩) (fun c_4 => ?_) (fun c_4 => ?_)
  · refine e_iconst F dX0_hasSeals_11 ?_
    refine e_zret F rfl (by omega) (by omega) ?_ dX0_hasSeals_12
    refine ⟨?_, rfl, rfl⟩
    first | rw [b01_f (by omega)] | rw [b01_t (by omega)]
  · refine e_iconst F dX0_hasSeals_7 ?_
    refine e_goto F 12 dX0_hasSeals_8 (by decide) ?_
    refine e_zret F rfl (by omega) (by omega) ?_ dX0_hasSeals_12
    refine ⟨?_, rfl, rfl⟩
    first | rw [b01_f (by omega)] | rw [b01_t (by omega)]
set_option maxHeartbeats 4000000 in
set_option maxRecDepth 100000 in
theorem c_X0_sealAt {K : e_K} {l : Launch} {w : e_W} {n : Nat} {d : Nat} {fl dg sc : Int} {A B : Int → Int} (hD : DL w d fl dg sc A B) {h : Int} (h1 : e_r h) : e_Met K l yX0_sealAt (Cond.code yX0_sealAt cX0_sealAt 2 (Option.some .int) :: e_TB) (0) (0) [.ref d, .int (eI h)] w n (fun r w' n' => r = some (.int (eI (if 0 ≤ h ∧ h < sc then B h else -1))) ∧ w' = w ∧ n' = n) (e_px0) := by
  refine e_ofV rfl (Nat.le_of_ble_eq_true rfl) ?_
  intro P9 E9 S9 M9 A9 B9 T9 C9 F hnm
  obtain ⟨h0, ⟨f, hf, hfA⟩, ⟨g, hg, hgB⟩, hfl, hdg, hsc, hA, hB⟩ := hD
  refine e_iload_n F dX0_sealAt_0 rfl ?_
  refine e_if_lt F 30 dX0_sealAt_1 (by decide) (h1) (fun c_1 => ?_) (fun c_1 => ?_)
  · refine e_iconst F dX0_sealAt_30 ?_
    refine e_iret F rfl (by omega) ?_ dX0_sealAt_31
    refine ⟨?_, rfl, rfl⟩
    first | rw [if_neg (by omega)] | rw [if_pos (by omega), hgB h (by omega) (by omega)]
  · refine e_iload_n F dX0_sealAt_4 rfl ?_
    refine e_aload_n F dX0_sealAt_5 rfl ?_
    refine e_get (ci := 0) (fi := 2) (q := (RX0, TX0, 5)) F (by first | assumption | exact e_up_s | (rw [e_up_n (by first | assumption | omega)]; first | assumption | exact e_up_s | (rw [e_up_n (by first | assumption | omega)]; first | assumption | exact e_up_s | (rw [e_up_n (by first | assumption | omega)]; first | assumption | exact e_up_s))) | exact hD.1 | exact hD1.1 | exact hD2.1 | exact gD.1 | exact gD1.1 | exact gD2.1 | exact gQ.1 | exact hQ.1 | exact gS.1 | exact hS.1 | exact zD.1) rfl (by decide) w_fl_RX0_29 (by rfl) dX0_sealAt_6 ?_
    refine e_icmp_ge F 30 dX0_sealAt_9 (by decide) (h1) (⟨by omega, by omega⟩) (fun c_9 => ?_) (fun c_9 => ?_)
    · refine e_iconst F dX0_sealAt_30 ?_
      refine e_iret F rfl (by omega) ?_ dX0_sealAt_31
      refine ⟨?_, rfl, rfl⟩
      first | rw [if_neg (by omega)] | rw [if_pos (by omega), hgB h (by omega) (by omega)]
    · refine e_iload_n F dX0_sealAt_12 rfl ?_
      refine e_aload_n F dX0_sealAt_13 rfl ?_
      refine e_get (ci := 0) (fi := 4) (q := (RX0, TX0, 5)) F (by first | assumption | exact e_up_s | (rw [e_up_n (by first | assumption | omega)]; first | assumption | exact e_up_s | (rw [e_up_n (by first | assumption | omega)]; first | assumption | exact e_up_s | (rw [e_up_n (by first | assumption | omega)]; first | assumption | exact e_up_s))) | exact hD.1 | exact hD1.1 | exact hD2.1 | exact gD.1 | exact gD1.1 | exact gD2.1 | exact gQ.1 | exact hQ.1 | exact gS.1 | exact hS.1 | exact zD.1) rfl (by decide) w_fl_RX0_15 (by rfl) dX0_sealAt_14 ?_
      refine e_alenI F (by first | assumption | exact e_up_s | (rw [e_up_n (by first | assumption | omega)]; first | assumption | exact e_up_s | (rw [e_up_n (by first | assumption | omega)]; first | assumption | exact e_up_s | (rw [e_up_n (by first | assumption | omega)]; first | assumption | exact e_up_s))) | exact hD.1 | exact hD1.1 | exact hD2.1 | exact gD.1 | exact gD1.1 | exact gD2.1 | exact gQ.1 | exact hQ.1 | exact gS.1 | exact hS.1 | exact zD.1) dX0_sealAt_17 ?_
      refine e_icmp_ge F 30 dX0_sealAt_18 (by decide) (⟨by omega, by omega⟩) (⟨by omega, by omega⟩) (fun c_18 => ?_) (fun c_18 => ?_)
      · exact absurd c_18 (by omega)
      · refine e_aload_n F dX0_sealAt_21 rfl ?_
        refine e_get (ci := 0) (fi := 4) (q := (RX0, TX0, 5)) F (by first | assumption | exact e_up_s | (rw [e_up_n (by first | assumption | omega)]; first | assumption | exact e_up_s | (rw [e_up_n (by first | assumption | omega)]; first | assumption | exact e_up_s | (rw [e_up_n (by first | assumption | omega)]; first | assumption | exact e_up_s))) | exact hD.1 | exact hD1.1 | exact hD2.1 | exact gD.1 | exact gD1.1 | exact gD2.1 | exact gQ.1 | exact hQ.1 | exact gS.1 | exact hS.1 | exact zD.1) rfl (by decide) w_fl_RX0_15 (by rfl) dX0_sealAt_22 ?_
        refine e_iload_n F dX0_sealAt_25 rfl ?_
        refine e_iald F (by first | assumption | exact e_up_s | (rw [e_up_n (by first | assumption | omega)]; first | assumption | exact e_up_s | (rw [e_up_n (by first | assumption | omega)]; first | assumption | exact e_up_s | (rw [e_up_n (by first | assumption | omega)]; first | assumption | exact e_up_s))) | exact hD.1 | exact hD1.1 | exact hD2.1 | exact gD.1 | exact gD1.1 | exact gD2.1 | exact gQ.1 | exact hQ.1 | exact gS.1 | exact hS.1 | exact zD.1) (by omega) (by omega) (by first | decide | omega) dX0_sealAt_26 ?_
        refine e_goto F 31 dX0_sealAt_27 (by decide) ?_
        refine e_iret F rfl (by omega) ?_ dX0_sealAt_31
        refine ⟨?_, rfl, rfl⟩
        first | rw [if_neg (by omega)] | rw [if_pos (by omega), hgB h (by omega) (by omega)]
set_option maxHeartbeats 4000000 in
set_option maxRecDepth 100000 in
theorem c_X0_setShare {K : e_K} {l : Launch} {w : e_W} {n : Nat} {d : Nat} {fl dg sc : Int} {A B : Int → Int} (hD : DL w d fl dg sc A B) {h v : Int} (h1 : 1 ≤ h) (h2 : h ≤ 7) (hv1 : -1 ≤ v) (hv2 : v < 1000003) : e_Met K l yX0_setShare (Cond.code yX0_setShare cX0_setShare 3 none :: e_TB) (0) (0) [.ref d, .int (eI h), .int (eI v)] w n (fun r w' n' => r = none ∧ n' = n ∧ DL w' d fl dg sc (e_fu A h v) B ∧ DF w w' d) (e_px0) := by
  refine e_ofV rfl (Nat.le_of_ble_eq_true rfl) ?_
  intro P9 E9 S9 M9 A9 B9 T9 C9 F hnm
  obtain ⟨h0, ⟨f, hf, hfA⟩, ⟨g, hg, hgB⟩, hfl, hdg, hsc, hA, hB⟩ := hD
  refine e_iload_n F dX0_setShare_0 rfl ?_
  refine e_iconst F dX0_setShare_1 ?_
  refine e_icmp_lt F 21 dX0_setShare_2 (by decide) (⟨by omega, by omega⟩) (⟨by omega, by omega⟩) (fun c_2 => ?_) (fun c_2 => ?_)
  · exact absurd c_2 (by omega)
  · refine e_iload_n F dX0_setShare_5 rfl ?_
    refine e_aload_n F dX0_setShare_6 rfl ?_
    refine e_get (ci := 0) (fi := 3) (q := (RX0, TX0, 5)) F (by first | assumption | exact e_up_s | (rw [e_up_n (by first | assumption | omega)]; first | assumption | exact e_up_s | (rw [e_up_n (by first | assumption | omega)]; first | assumption | exact e_up_s | (rw [e_up_n (by first | assumption | omega)]; first | assumption | exact e_up_s))) | exact hD.1 | exact hD1.1 | exact hD2.1 | exact gD.1 | exact gD1.1 | exact gD2.1 | exact gQ.1 | exact hQ.1 | exact gS.1 | exact hS.1 | exact zD.1) rfl (by decide) w_fl_RX0_9 (by rfl) dX0_setShare_7 ?_
    refine e_alenI F (by first | assumption | exact e_up_s | (rw [e_up_n (by first | assumption | omega)]; first | assumption | exact e_up_s | (rw [e_up_n (by first | assumption | omega)]; first | assumption | exact e_up_s | (rw [e_up_n (by first | assumption | omega)]; first | assumption | exact e_up_s))) | exact hD.1 | exact hD1.1 | exact hD2.1 | exact gD.1 | exact gD1.1 | exact gD2.1 | exact gQ.1 | exact hQ.1 | exact gS.1 | exact hS.1 | exact zD.1) dX0_setShare_10 ?_
    refine e_icmp_ge F 21 dX0_setShare_11 (by decide) (⟨by omega, by omega⟩) (⟨by omega, by omega⟩) (fun c_11 => ?_) (fun c_11 => ?_)
    · exact absurd c_11 (by omega)
    · refine e_aload_n F dX0_setShare_14 rfl ?_
      refine e_get (ci := 0) (fi := 3) (q := (RX0, TX0, 5)) F (by first | assumption | exact e_up_s | (rw [e_up_n (by first | assumption | omega)]; first | assumption | exact e_up_s | (rw [e_up_n (by first | assumption | omega)]; first | assumption | exact e_up_s | (rw [e_up_n (by first | assumption | omega)]; first | assumption | exact e_up_s))) | exact hD.1 | exact hD1.1 | exact hD2.1 | exact gD.1 | exact gD1.1 | exact gD2.1 | exact gQ.1 | exact hQ.1 | exact gS.1 | exact hS.1 | exact zD.1) rfl (by decide) w_fl_RX0_9 (by rfl) dX0_setShare_15 ?_
      refine e_iload_n F dX0_setShare_18 rfl ?_
      refine e_iload_n F dX0_setShare_19 rfl ?_
      refine e_iast F (by first | assumption | exact e_up_s | (rw [e_up_n (by first | assumption | omega)]; first | assumption | exact e_up_s | (rw [e_up_n (by first | assumption | omega)]; first | assumption | exact e_up_s | (rw [e_up_n (by first | assumption | omega)]; first | assumption | exact e_up_s))) | exact hD.1 | exact hD1.1 | exact hD2.1 | exact gD.1 | exact gD1.1 | exact gD2.1 | exact gQ.1 | exact hQ.1 | exact gS.1 | exact hS.1 | exact zD.1) (by omega) (by omega) (by first | decide | omega) dX0_setShare_20 ?_
      refine e_vret F rfl (by omega) ?_ dX0_setShare_21
      refine ⟨rfl, rfl, ⟨by rw [e_up_n (by omega)]; exact h0, ⟨e_fu f h v, e_up_s, fun j j0 j1 => ?_⟩, ⟨g, by rw [e_up_n (by omega)]; exact hg, hgB⟩, hfl, hdg, hsc, fun j j0 j1 => ?_, hB⟩, fun q _ hq2 _ => e_up_n hq2⟩
      · unfold e_fu
        split
        · rfl
        · exact hfA j j0 j1
      · unfold e_fu
        split
        · omega
        · exact hA j j0 j1
set_option maxHeartbeats 4000000 in
set_option maxRecDepth 100000 in
theorem c_X0_setSeal {K : e_K} {l : Launch} {w : e_W} {n : Nat} {d : Nat} {fl dg sc : Int} {A B : Int → Int} (hD : DL w d fl dg sc A B) {h v : Int} (h1 : 0 ≤ h) (h2 : h < sc) (hv1 : 0 ≤ v) (hv2 : v < 36000109) : e_Met K l yX0_setSeal (Cond.code yX0_setSeal cX0_setSeal 3 none :: e_TB) (0) (0) [.ref d, .int (eI h), .int (eI v)] w n (fun r w' n' => r = none ∧ n' = n ∧ DL w' d fl dg sc A (e_fu B h v) ∧ DF w w' d) (e_px0) := by
  refine e_ofV rfl (Nat.le_of_ble_eq_true rfl) ?_
  intro P9 E9 S9 M9 A9 B9 T9 C9 F hnm
  obtain ⟨h0, ⟨f, hf, hfA⟩, ⟨g, hg, hgB⟩, hfl, hdg, hsc, hA, hB⟩ := hD
  refine e_iload_n F dX0_setSeal_0 rfl ?_
  refine e_if_lt F 28 dX0_setSeal_1 (by decide) (⟨by omega, by omega⟩) (fun c_1 => ?_) (fun c_1 => ?_)
  · exact absurd c_1 (by omega)
  · refine e_iload_n F dX0_setSeal_4 rfl ?_
    refine e_aload_n F dX0_setSeal_5 rfl ?_
    refine e_get (ci := 0) (fi := 2) (q := (RX0, TX0, 5)) F (by first | assumption | exact e_up_s | (rw [e_up_n (by first | assumption | omega)]; first | assumption | exact e_up_s | (rw [e_up_n (by first | assumption | omega)]; first | assumption | exact e_up_s | (rw [e_up_n (by first | assumption | omega)]; first | assumption | exact e_up_s))) | exact hD.1 | exact hD1.1 | exact hD2.1 | exact gD.1 | exact gD1.1 | exact gD2.1 | exact gQ.1 | exact hQ.1 | exact gS.1 | exact hS.1 | exact zD.1) rfl (by decide) w_fl_RX0_29 (by rfl) dX0_setSeal_6 ?_
    refine e_icmp_ge F 28 dX0_setSeal_9 (by decide) (⟨by omega, by omega⟩) (⟨by omega, by omega⟩) (fun c_9 => ?_) (fun c_9 => ?_)
    · exact absurd c_9 (by omega)
    · refine e_iload_n F dX0_setSeal_12 rfl ?_
      refine e_aload_n F dX0_setSeal_13 rfl ?_
      refine e_get (ci := 0) (fi := 4) (q := (RX0, TX0, 5)) F (by first | assumption | exact e_up_s | (rw [e_up_n (by first | assumption | omega)]; first | assumption | exact e_up_s | (rw [e_up_n (by first | assumption | omega)]; first | assumption | exact e_up_s | (rw [e_up_n (by first | assumption | omega)]; first | assumption | exact e_up_s))) | exact hD.1 | exact hD1.1 | exact hD2.1 | exact gD.1 | exact gD1.1 | exact gD2.1 | exact gQ.1 | exact hQ.1 | exact gS.1 | exact hS.1 | exact zD.1) rfl (by decide) w_fl_RX0_15 (by rfl) dX0_setSeal_14 ?_
      refine e_alenI F (by first | assumption | exact e_up_s | (rw [e_up_n (by first | assumption | omega)]; first | assumption | exact e_up_s | (rw [e_up_n (by first | assumption | omega)]; first | assumption | exact e_up_s | (rw [e_up_n (by first | assumption | omega)]; first | assumption | exact e_up_s))) | exact hD.1 | exact hD1.1 | exact hD2.1 | exact gD.1 | exact gD1.1 | exact gD2.1 | exact gQ.1 | exact hQ.1 | exact gS.1 | exact hS.1 | exact zD.1) dX0_setSeal_17 ?_
      refine e_icmp_ge F 28 dX0_setSeal_18 (by decide) (⟨by omega, by omega⟩) (⟨by omega, by omega⟩) (fun c_18 => ?_) (fun c_18 => ?_)
      · exact absurd c_18 (by omega)
      · refine e_aload_n F dX0_setSeal_21 rfl ?_
        refine e_get (ci := 0) (fi := 4) (q := (RX0, TX0, 5)) F (by first | assumption | exact e_up_s | (rw [e_up_n (by first | assumption | omega)]; first | assumption | exact e_up_s | (rw [e_up_n (by first | assumption | omega)]; first | assumption | exact e_up_s | (rw [e_up_n (by first | assumption | omega)]; first | assumption | exact e_up_s))) | exact hD.1 | exact hD1.1 | exact hD2.1 | exact gD.1 | exact gD1.1 | exact gD2.1 | exact gQ.1 | exact hQ.1 | exact gS.1 | exact hS.1 | exact zD.1) rfl (by decide) w_fl_RX0_15 (by rfl) dX0_setSeal_22 ?_
        refine e_iload_n F dX0_setSeal_25 rfl ?_
        refine e_iload_n F dX0_setSeal_26 rfl ?_
        refine e_iast F (by first | assumption | exact e_up_s | (rw [e_up_n (by first | assumption | omega)]; first | assumption | exact e_up_s | (rw [e_up_n (by first | assumption | omega)]; first | assumption | exact e_up_s | (rw [e_up_n (by first | assumption | omega)]; first | assumption | exact e_up_s))) | exact hD.1 | exact hD1.1 | exact hD2.1 | exact gD.1 | exact gD1.1 | exact gD2.1 | exact gQ.1 | exact hQ.1 | exact gS.1 | exact hS.1 | exact zD.1) (by omega) (by omega) (by first | decide | omega) dX0_setSeal_27 ?_
        refine e_vret F rfl (by omega) ?_ dX0_setSeal_28
        refine ⟨rfl, rfl, ⟨by rw [e_up_n (by omega)]; exact h0, ⟨f, by rw [e_up_n (by omega)]; exact hf, hfA⟩, ⟨e_fu g h v, e_up_s, fun j j0 j1 => ?_⟩, hfl, hdg, hsc, hA, fun j j0 j1 => ?_⟩, fun q _ _ hq3 => e_up_n hq3⟩
        · unfold e_fu
          split
          · rfl
          · exact hgB j j0 j1
        · unfold e_fu
          split
          · omega
          · exact hB j j0 j1
set_option maxHeartbeats 4000000 in
set_option maxRecDepth 100000 in
theorem c_X0_addSeal {K : e_K} {l : Launch} {w : e_W} {n : Nat} {d : Nat} {fl dg sc : Int} {A B : Int → Int} (hD : DL w d fl dg sc A B) {v : Int} (h2 : sc < 7) (hv1 : 0 ≤ v) (hv2 : v < 36000109) : e_Met K l yX0_addSeal (Cond.code yX0_addSeal cX0_addSeal 2 none :: e_TB) (0) (0) [.ref d, .int (eI v)] w n (fun r w' n' => r = none ∧ n' = n ∧ DL w' d fl dg (sc + 1) A (e_fu B sc v) ∧ DF w w' d) (e_px0) := by
  refine e_ofV rfl (Nat.le_of_ble_eq_true rfl) ?_
  intro P9 E9 S9 M9 A9 B9 T9 C9 F hnm
  obtain ⟨h0, ⟨f, hf, hfA⟩, ⟨g, hg, hgB⟩, hfl, hdg, hsc, hA, hB⟩ := hD
  refine e_aload_n F dX0_addSeal_0 rfl ?_
  refine e_get (ci := 0) (fi := 2) (q := (RX0, TX0, 5)) F (by first | assumption | exact e_up_s | (rw [e_up_n (by first | assumption | omega)]; first | assumption | exact e_up_s | (rw [e_up_n (by first | assumption | omega)]; first | assumption | exact e_up_s | (rw [e_up_n (by first | assumption | omega)]; first | assumption | exact e_up_s))) | exact hD.1 | exact hD1.1 | exact hD2.1 | exact gD.1 | exact gD1.1 | exact gD2.1 | exact gQ.1 | exact hQ.1 | exact gS.1 | exact hS.1 | exact zD.1) rfl (by decide) w_fl_RX0_29 (by rfl) dX0_addSeal_1 ?_
  refine e_if_lt F 39 dX0_addSeal_4 (by decide) (⟨by omega, by omega⟩) (fun c_4 => ?_) (fun c_4 => ?_)
  · exact absurd c_4 (by omega)
  · refine e_aload_n F dX0_addSeal_7 rfl ?_
    refine e_get (ci := 0) (fi := 2) (q := (RX0, TX0, 5)) F (by first | assumption | exact e_up_s | (rw [e_up_n (by first | assumption | omega)]; first | assumption | exact e_up_s | (rw [e_up_n (by first | assumption | omega)]; first | assumption | exact e_up_s | (rw [e_up_n (by first | assumption | omega)]; first | assumption | exact e_up_s))) | exact hD.1 | exact hD1.1 | exact hD2.1 | exact gD.1 | exact gD1.1 | exact gD2.1 | exact gQ.1 | exact hQ.1 | exact gS.1 | exact hS.1 | exact zD.1) rfl (by decide) w_fl_RX0_29 (by rfl) dX0_addSeal_8 ?_
    refine e_aload_n F dX0_addSeal_11 rfl ?_
    refine e_get (ci := 0) (fi := 4) (q := (RX0, TX0, 5)) F (by first | assumption | exact e_up_s | (rw [e_up_n (by first | assumption | omega)]; first | assumption | exact e_up_s | (rw [e_up_n (by first | assumption | omega)]; first | assumption | exact e_up_s | (rw [e_up_n (by first | assumption | omega)]; first | assumption | exact e_up_s))) | exact hD.1 | exact hD1.1 | exact hD2.1 | exact gD.1 | exact gD1.1 | exact gD2.1 | exact gQ.1 | exact hQ.1 | exact gS.1 | exact hS.1 | exact zD.1) rfl (by decide) w_fl_RX0_15 (by rfl) dX0_addSeal_12 ?_
    refine e_alenI F (by first | assumption | exact e_up_s | (rw [e_up_n (by first | assumption | omega)]; first | assumption | exact e_up_s | (rw [e_up_n (by first | assumption | omega)]; first | assumption | exact e_up_s | (rw [e_up_n (by first | assumption | omega)]; first | assumption | exact e_up_s))) | exact hD.1 | exact hD1.1 | exact hD2.1 | exact gD.1 | exact gD1.1 | exact gD2.1 | exact gQ.1 | exact hQ.1 | exact gS.1 | exact hS.1 | exact zD.1) dX0_addSeal_15 ?_
    refine e_icmp_ge F 39 dX0_addSeal_16 (by decide) (⟨by omega, by omega⟩) (⟨by omega, by omega⟩) (fun c_16 => ?_) (fun c_16 => ?_)
    · exact absurd c_16 (by omega)
    · refine e_aload_n F dX0_addSeal_19 rfl ?_
      refine e_get (ci := 0) (fi := 4) (q := (RX0, TX0, 5)) F (by first | assumption | exact e_up_s | (rw [e_up_n (by first | assumption | omega)]; first | assumption | exact e_up_s | (rw [e_up_n (by first | assumption | omega)]; first | assumption | exact e_up_s | (rw [e_up_n (by first | assumption | omega)]; first | assumption | exact e_up_s))) | exact hD.1 | exact hD1.1 | exact hD2.1 | exact gD.1 | exact gD1.1 | exact gD2.1 | exact gQ.1 | exact hQ.1 | exact gS.1 | exact hS.1 | exact zD.1) rfl (by decide) w_fl_RX0_15 (by rfl) dX0_addSeal_20 ?_
      refine e_aload_n F dX0_addSeal_23 rfl ?_
      refine e_get (ci := 0) (fi := 2) (q := (RX0, TX0, 5)) F (by first | assumption | exact e_up_s | (rw [e_up_n (by first | assumption | omega)]; first | assumption | exact e_up_s | (rw [e_up_n (by first | assumption | omega)]; first | assumption | exact e_up_s | (rw [e_up_n (by first | assumption | omega)]; first | assumption | exact e_up_s))) | exact hD.1 | exact hD1.1 | exact hD2.1 | exact gD.1 | exact gD1.1 | exact gD2.1 | exact gQ.1 | exact hQ.1 | exact gS.1 | exact hS.1 | exact zD.1) rfl (by decide) w_fl_RX0_29 (by rfl) dX0_addSeal_24 ?_
      refine e_iload_n F dX0_addSeal_27 rfl ?_
      refine e_iast F (by first | assumption | exact e_up_s | (rw [e_up_n (by first | assumption | omega)]; first | assumption | exact e_up_s | (rw [e_up_n (by first | assumption | omega)]; first | assumption | exact e_up_s | (rw [e_up_n (by first | assumption | omega)]; first | assumption | exact e_up_s))) | exact hD.1 | exact hD1.1 | exact hD2.1 | exact gD.1 | exact gD1.1 | exact gD2.1 | exact gQ.1 | exact hQ.1 | exact gS.1 | exact hS.1 | exact zD.1) (by omega) (by omega) (by first | decide | omega) dX0_addSeal_28 ?_
      refine e_aload_n F dX0_addSeal_29 rfl ?_
      refine e_dup F dX0_addSeal_30 rfl ?_
      refine e_get (ci := 0) (fi := 2) (q := (RX0, TX0, 5)) F (by first | assumption | exact e_up_s | (rw [e_up_n (by first | assumption | omega)]; first | assumption | exact e_up_s | (rw [e_up_n (by first | assumption | omega)]; first | assumption | exact e_up_s | (rw [e_up_n (by first | assumption | omega)]; first | assumption | exact e_up_s))) | exact hD.1 | exact hD1.1 | exact hD2.1 | exact gD.1 | exact gD1.1 | exact gD2.1 | exact gQ.1 | exact hQ.1 | exact gS.1 | exact hS.1 | exact zD.1) rfl (by decide) w_fl_RX0_29 (by rfl) dX0_addSeal_31 ?_
      refine e_iconst F dX0_addSeal_34 ?_
      refine e_iadd F dX0_addSeal_35 ?_
      refine e_set (host := "") (ci := 0) (fi := 2) (q := (RX0, TX0, 5)) F (by first | assumption | exact e_up_s | (rw [e_up_n (by first | assumption | omega)]; first | assumption | exact e_up_s | (rw [e_up_n (by first | assumption | omega)]; first | assumption | exact e_up_s | (rw [e_up_n (by first | assumption | omega)]; first | assumption | exact e_up_s))) | exact hD.1 | exact hD1.1 | exact hD2.1 | exact gD.1 | exact gD1.1 | exact gD2.1 | exact gQ.1 | exact hQ.1 | exact gS.1 | exact hS.1 | exact zD.1) rfl (by decide) w_fl_RX0_29 rfl (by rfl) (by rfl) (Nat.le_of_ble_eq_true rfl) dX0_addSeal_36 ?_
      refine e_vret F rfl (by omega) ?_ dX0_addSeal_39
      have hne : d + 2 ≠ d := by omega
      have hne1 : d + 1 ≠ d := by omega
      have hne2 : d + 1 ≠ d + 2 := by omega
      refine ⟨rfl, rfl, ⟨e_up_s, ⟨f, by simp only [e_up, if_neg hne1, if_neg hne2]; exact hf, hfA⟩, ⟨e_fu g sc v, by rw [e_up_n hne]; exact e_up_s, fun j j0 j1 => ?_⟩, hfl, hdg, by omega, hA, fun j j0 j1 => ?_⟩, fun q hq1 _ hq3 => by simp only [e_up, if_neg hq1, if_neg hq3]⟩
      · unfold e_fu
        split
        · rfl
        · exact hgB j j0 (by omega)
      · unfold e_fu
        split
        · omega
        · exact hB j j0 (by omega)
set_option maxHeartbeats 4000000 in
set_option maxRecDepth 100000 in
theorem c_X0_holderSet {K : e_K} {l : Launch} {w : e_W} {n : Nat} {d : Nat} {fl dg sc : Int} {A B : Int → Int} (hD : DL w d fl dg sc A B) : e_Met K l yX0_holderSet (Cond.code yX0_holderSet cX0_holderSet 3 (Option.some .int) :: e_TB) (1) (0) [.ref d] w n (fun r w' n' => r = some (.int (eI (st7 A))) ∧ w' = w ∧ n' = n) (e_px0) := by
  refine e_ofV rfl (Nat.le_of_ble_eq_true rfl) ?_
  intro P9 E9 S9 M9 A9 B9 T9 C9 F hnm
  obtain ⟨h0, ⟨f, hf, hfA⟩, ⟨g, hg, hgB⟩, hfl, hdg, hsc, hA, hB⟩ := hD
  have lp : ∀ (N : Nat) (k : Nat), (7 - k) < N → k ≤ 7 → e_V K P9 l E9 (1) (0) S9 M9 A9 B9 T9 C9 3 (fun r w' n' => r = some (.int (eI (st7 A))) ∧ w' = w ∧ n' = n) (e_px0) 4 [(0, .ref d), (1, .int (eI (stK A k))), (2, .int (eI ((k : Int) + 1)))] [] w n (0) := by
    intro N
    induction N with
    | zero => intro k hN; exact absurd hN (Nat.not_lt_zero _)
    | succ N ih =>
      intro k hN hk
      have hs := stK_rg A k
      refine e_iload_n F dX0_holderSet_4 rfl ?_
      refine e_aload_n F dX0_holderSet_5 rfl ?_
      refine e_get (ci := 0) (fi := 3) (q := (RX0, TX0, 5)) F (by first | assumption | exact e_up_s | (rw [e_up_n (by first | assumption | omega)]; first | assumption | exact e_up_s | (rw [e_up_n (by first | assumption | omega)]; first | assumption | exact e_up_s | (rw [e_up_n (by first | assumption | omega)]; first | assumption | exact e_up_s))) | exact hD.1 | exact hD1.1 | exact hD2.1 | exact gD.1 | exact gD1.1 | exact gD2.1 | exact gQ.1 | exact hQ.1 | exact gS.1 | exact hS.1 | exact zD.1) rfl (by decide) w_fl_RX0_9 (by rfl) dX0_holderSet_6 ?_
      refine e_alenI F (by first | assumption | exact e_up_s | (rw [e_up_n (by first | assumption | omega)]; first | assumption | exact e_up_s | (rw [e_up_n (by first | assumption | omega)]; first | assumption | exact e_up_s | (rw [e_up_n (by first | assumption | omega)]; first | assumption | exact e_up_s))) | exact hD.1 | exact hD1.1 | exact hD2.1 | exact gD.1 | exact gD1.1 | exact gD2.1 | exact gQ.1 | exact hQ.1 | exact gS.1 | exact hS.1 | exact zD.1) dX0_holderSet_9 ?_
      refine e_icmp_ge F 36 dX0_holderSet_10 (by decide) (⟨by omega, by omega⟩) (⟨by omega, by omega⟩) (fun c_10 => ?_) (fun c_10 => ?_)
      ·
        obtain rfl : k = 7 := by omega
        refine e_iload_n F dX0_holderSet_36 rfl ?_
        refine e_iret F rfl (by omega) ?_ dX0_holderSet_37
        exact ⟨rfl, rfl, rfl⟩
      · refine e_aload_n F dX0_holderSet_13 rfl ?_
        refine e_get (ci := 0) (fi := 3) (q := (RX0, TX0, 5)) F (by first | assumption | exact e_up_s | (rw [e_up_n (by first | assumption | omega)]; first | assumption | exact e_up_s | (rw [e_up_n (by first | assumption | omega)]; first | assumption | exact e_up_s | (rw [e_up_n (by first | assumption | omega)]; first | assumption | exact e_up_s))) | exact hD.1 | exact hD1.1 | exact hD2.1 | exact gD.1 | exact gD1.1 | exact gD2.1 | exact gQ.1 | exact hQ.1 | exact gS.1 | exact hS.1 | exact zD.1) rfl (by decide) w_fl_RX0_9 (by rfl) dX0_holderSet_14 ?_
        refine e_iload_n F dX0_holderSet_17 rfl ?_
        refine e_iald F (by first | assumption | exact e_up_s | (rw [e_up_n (by first | assumption | omega)]; first | assumption | exact e_up_s | (rw [e_up_n (by first | assumption | omega)]; first | assumption | exact e_up_s | (rw [e_up_n (by first | assumption | omega)]; first | assumption | exact e_up_s))) | exact hD.1 | exact hD1.1 | exact hD2.1 | exact gD.1 | exact gD1.1 | exact gD2.1 | exact gQ.1 | exact hQ.1 | exact gS.1 | exact hS.1 | exact zD.1) (by omega) (by omega) (by first | decide | omega) dX0_holderSet_18 ?_
        refine e_iconst F dX0_holderSet_19 ?_
        refine e_icmp_eq F 30 dX0_holderSet_20 (by decide) (by rw [hfA _ (by omega) (by omega)]; have := hA ((k : Int) + 1) (by omega) (by omega); constructor <;> omega) (⟨by omega, by omega⟩) (fun c_20 => ?_) (fun c_20 => ?_)
        ·
          rw [hfA _ (by omega) (by omega)] at c_20
          have q1 : stK A (k + 1) = stK A k := by show stK A k + _ = _; rw [if_neg (by omega)]; omega
          refine e_iinc F dX0_holderSet_30 rfl (by decide) ?_
          refine e_goto F 4 dX0_holderSet_33 (by decide) ?_
          refine e_go (ih (k + 1) (by omega) (by omega)) ?_
          rw [q1]
          exact And.intro rfl (And.intro rfl (And.intro rfl trivial))
        ·
          rw [hfA _ (by omega) (by omega)] at c_20
          have q1 : stK A (k + 1) = stK A k + 2 ^ k := by show stK A k + _ = _; rw [if_pos c_20]
          refine e_iload_n F dX0_holderSet_23 rfl ?_
          refine e_iload_n F dX0_holderSet_24 rfl ?_
          refine e_callSN F u_X3_bitOf (by rfl) (c_X3_bitOf (h := (k : Int) + 1) (by omega) (by omega)) w_mn_RX0_39 dX0_holderSet_25 (by rfl) (Nat.le_of_ble_eq_true rfl) (by decide) (by omega) (fun _ _ _ h _ => False.elim h) (fun r_25 w_25 n_25 h_25 hn_25 => ?_)
          obtain ⟨rfl, ew_25, en_25⟩ := h_25
          rw [ew_25, en_25]
          have e9 : ((k : Int) + 1 - 1).toNat = k := by omega
          refine e_ior F dX0_holderSet_28 (by rw [e9]; exact eI_or (by omega) hs.1 hs.2) ?_
          refine e_istore_n F dX0_holderSet_29 (by decide) ?_
          refine e_iinc F dX0_holderSet_30 rfl (by decide) ?_
          refine e_goto F 4 dX0_holderSet_33 (by decide) ?_
          refine e_go (ih (k + 1) (by omega) (by omega)) ?_
          rw [q1]
          exact And.intro rfl (And.intro rfl (And.intro rfl trivial))
  refine e_iconst F dX0_holderSet_0 ?_
  refine e_istore_n F dX0_holderSet_1 (by decide) ?_
  refine e_iconst F dX0_holderSet_2 ?_
  refine e_istore_n F dX0_holderSet_3 (by decide) ?_
  exact e_go (lp 8 0 (by omega) (by omega)) (And.intro rfl (And.intro rfl (And.intro rfl (trivial))))
set_option maxHeartbeats 4000000 in
set_option maxRecDepth 100000 in
theorem c_X0_shareCount {K : e_K} {l : Launch} {w : e_W} {n : Nat} {d : Nat} {fl dg sc : Int} {A B : Int → Int} (hD : DL w d fl dg sc A B) : e_Met K l yX0_shareCount (Cond.code yX0_shareCount cX0_shareCount 1 (Option.some .int) :: e_TB) (2) (0) [.ref d] w n (fun r w' n' => r = some (.int (eI (bc (st7 A)))) ∧ w' = w ∧ n' = n) (e_px0) := by
  refine e_ofV rfl (Nat.le_of_ble_eq_true rfl) ?_
  intro P9 E9 S9 M9 A9 B9 T9 C9 F hnm
  have hs := st7_rg A
  obtain ⟨k9, hk9⟩ : ∃ k : Nat, st7 A = (k : Int) := ⟨(st7 A).toNat, by omega⟩
  refine e_aload_n F dX0_shareCount_0 rfl ?_
  refine e_callVV F u_X0_holderSet (by rfl) (c_X0_holderSet hD) hD.1 rfl rfl w_ml_RX0_42 dX0_shareCount_1 (by rfl) (Nat.le_of_ble_eq_true rfl) (by decide) (by omega) (fun _ _ _ h _ => False.elim h) (fun r_1 w_1 n_1 h_1 hn_1 => ?_)
  obtain ⟨rfl, rfl, rfl⟩ := h_1
  rw [hk9]
  refine e_callSS F u_J6_bitCount_0f7a4 (by rfl) (c_J6_bitCount_0f7a4 (k := k9) (by omega)) w_ml_RX0_46 dX0_shareCount_4 (by rfl) (Nat.le_of_ble_eq_true rfl) (by decide) (by omega) (fun _ _ _ h _ => False.elim h) (fun r_4 w_4 n_4 h_4 hn_4 => ?_)
  obtain ⟨rfl, ew_4, en_4⟩ := h_4
  rw [ew_4, en_4]
  refine e_iret F rfl (by omega) ?_ dX0_shareCount_7
  exact ⟨rfl, rfl, rfl⟩
set_option maxHeartbeats 4000000 in
set_option maxRecDepth 100000 in
theorem c_X0_firstSet {K : e_K} {l : Launch} {w : e_W} {n : Nat} {d : Nat} {fl dg sc : Int} {A B : Int → Int} (hD : DL w d fl dg sc A B) : e_Met K l yX0_firstSet (Cond.code yX0_firstSet cX0_firstSet 4 (Option.some .int) :: e_TB) (1) (0) [.ref d] w n (fun r w' n' => r = some (.int (eI (fs7 A dg))) ∧ w' = w ∧ n' = n) (e_px0) := by
  refine e_ofV rfl (Nat.le_of_ble_eq_true rfl) ?_
  intro P9 E9 S9 M9 A9 B9 T9 C9 F hnm
  obtain ⟨h0, ⟨f, hf, hfA⟩, ⟨g, hg, hgB⟩, hfl, hdg, hsc, hA, hB⟩ := hD
  have lp : ∀ (N : Nat) (k : Nat), (7 - k) < N → k ≤ 7 → e_V K P9 l E9 (1) (0) S9 M9 A9 B9 T9 C9 4 (fun r w' n' => r = some (.int (eI (fs7 A dg))) ∧ w' = w ∧ n' = n) (e_px0) 11 [(0, .ref d), (1, .int (eI (fsK A dg k).1)), (2, .int (eI (fsK A dg k).2)), (3, .int (eI ((k : Int) + 1)))] [] w n (0) := by
    intro N
    induction N with
    | zero => intro k hN; exact absurd hN (Nat.not_lt_zero _)
    | succ N ih =>
      intro k hN hk
      have hs := fsK_rg A dg hdg.1 k
      refine e_iload_n F dX0_firstSet_11 rfl ?_
      refine e_aload_n F dX0_firstSet_12 rfl ?_
      refine e_get (ci := 0) (fi := 3) (q := (RX0, TX0, 5)) F (by first | assumption | exact e_up_s | (rw [e_up_n (by first | assumption | omega)]; first | assumption | exact e_up_s | (rw [e_up_n (by first | assumption | omega)]; first | assumption | exact e_up_s | (rw [e_up_n (by first | assumption | omega)]; first | assumption | exact e_up_s))) | exact hD.1 | exact hD1.1 | exact hD2.1 | exact gD.1 | exact gD1.1 | exact gD2.1 | exact gQ.1 | exact hQ.1 | exact gS.1 | exact hS.1 | exact zD.1) rfl (by decide) w_fl_RX0_9 (by rfl) dX0_firstSet_13 ?_
      refine e_alenI F (by first | assumption | exact e_up_s | (rw [e_up_n (by first | assumption | omega)]; first | assumption | exact e_up_s | (rw [e_up_n (by first | assumption | omega)]; first | assumption | exact e_up_s | (rw [e_up_n (by first | assumption | omega)]; first | assumption | exact e_up_s))) | exact hD.1 | exact hD1.1 | exact hD2.1 | exact gD.1 | exact gD1.1 | exact gD2.1 | exact gQ.1 | exact hQ.1 | exact gS.1 | exact hS.1 | exact zD.1) dX0_firstSet_16 ?_
      refine e_icmp_ge F 50 dX0_firstSet_17 (by decide) (⟨by omega, by omega⟩) (⟨by omega, by omega⟩) (fun c_17 => ?_) (fun c_17 => ?_)
      ·
        obtain rfl : k = 7 := by omega
        have q2 := rfl (a := fsK A dg 7)
        refine e_iload_n F dX0_firstSet_50 rfl ?_
        refine e_if_ne F 58 dX0_firstSet_51 (by decide) (⟨by omega, by omega⟩) (fun c_51 => ?_) (fun c_51 => ?_)
        · refine e_iconst F dX0_firstSet_58 ?_
          refine e_iret F rfl (by omega) ?_ dX0_firstSet_59
          refine ⟨?_, rfl, rfl⟩
          unfold fs7
          rw [← q2]
          first | (exfalso; omega) | rw [if_pos (by omega)] | rw [if_neg (by omega)]
        · refine e_iload_n F dX0_firstSet_54 rfl ?_
          refine e_goto F 59 dX0_firstSet_55 (by decide) ?_
          refine e_iret F rfl (by omega) ?_ dX0_firstSet_59
          refine ⟨?_, rfl, rfl⟩
          unfold fs7
          rw [← q2]
          first | (exfalso; omega) | rw [if_pos (by omega)] | rw [if_neg (by omega)]
      · refine e_iload_n F dX0_firstSet_20 rfl ?_
        refine e_if_le F 50 dX0_firstSet_21 (by decide) (⟨by omega, by omega⟩) (fun c_21 => ?_) (fun c_21 => ?_)
        ·
          have q2 := (fsK_stop A dg (k := k) (by omega) 7 (by omega)).symm
          refine e_iload_n F dX0_firstSet_50 rfl ?_
          refine e_if_ne F 58 dX0_firstSet_51 (by decide) (⟨by omega, by omega⟩) (fun c_51 => ?_) (fun c_51 => ?_)
          · refine e_iconst F dX0_firstSet_58 ?_
            refine e_iret F rfl (by omega) ?_ dX0_firstSet_59
            refine ⟨?_, rfl, rfl⟩
            unfold fs7
            rw [← q2]
            first | (exfalso; omega) | rw [if_pos (by omega)] | rw [if_neg (by omega)]
          · refine e_iload_n F dX0_firstSet_54 rfl ?_
            refine e_goto F 59 dX0_firstSet_55 (by decide) ?_
            refine e_iret F rfl (by omega) ?_ dX0_firstSet_59
            refine ⟨?_, rfl, rfl⟩
            unfold fs7
            rw [← q2]
            first | (exfalso; omega) | rw [if_pos (by omega)] | rw [if_neg (by omega)]
        · refine e_aload_n F dX0_firstSet_24 rfl ?_
          refine e_get (ci := 0) (fi := 3) (q := (RX0, TX0, 5)) F (by first | assumption | exact e_up_s | (rw [e_up_n (by first | assumption | omega)]; first | assumption | exact e_up_s | (rw [e_up_n (by first | assumption | omega)]; first | assumption | exact e_up_s | (rw [e_up_n (by first | assumption | omega)]; first | assumption | exact e_up_s))) | exact hD.1 | exact hD1.1 | exact hD2.1 | exact gD.1 | exact gD1.1 | exact gD2.1 | exact gQ.1 | exact hQ.1 | exact gS.1 | exact hS.1 | exact zD.1) rfl (by decide) w_fl_RX0_9 (by rfl) dX0_firstSet_25 ?_
          refine e_iload_n F dX0_firstSet_28 rfl ?_
          refine e_iald F (by first | assumption | exact e_up_s | (rw [e_up_n (by first | assumption | omega)]; first | assumption | exact e_up_s | (rw [e_up_n (by first | assumption | omega)]; first | assumption | exact e_up_s | (rw [e_up_n (by first | assumption | omega)]; first | assumption | exact e_up_s))) | exact hD.1 | exact hD1.1 | exact hD2.1 | exact gD.1 | exact gD1.1 | exact gD2.1 | exact gQ.1 | exact hQ.1 | exact gS.1 | exact hS.1 | exact zD.1) (by omega) (by omega) (by first | decide | omega) dX0_firstSet_29 ?_
          refine e_iconst F dX0_firstSet_30 ?_
          refine e_icmp_eq F 44 dX0_firstSet_31 (by decide) (by rw [hfA _ (by omega) (by omega)]; have := hA ((k : Int) + 1) (by omega) (by omega); constructor <;> omega) (⟨by omega, by omega⟩) (fun c_31 => ?_) (fun c_31 => ?_)
          ·
            rw [hfA _ (by omega) (by omega)] at c_31
            have q1 : fsK A dg (k + 1) = fsK A dg k := if_neg (fun q => q.2 c_31)
            refine e_iinc F dX0_firstSet_44 rfl (by decide) ?_
            refine e_goto F 11 dX0_firstSet_47 (by decide) ?_
            refine e_go (ih (k + 1) (by omega) (by omega)) ?_
            rw [q1]
            exact And.intro rfl (And.intro rfl (And.intro rfl (And.intro rfl trivial)))
          ·
            rw [hfA _ (by omega) (by omega)] at c_31
            have q1 : fsK A dg (k + 1) = ((fsK A dg k).1 + 2 ^ k, (fsK A dg k).2 - 1) := if_pos ⟨by omega, c_31⟩
            refine e_iload_n F dX0_firstSet_34 rfl ?_
            refine e_iload_n F dX0_firstSet_35 rfl ?_
            refine e_callSN F u_X3_bitOf (by rfl) (c_X3_bitOf (h := (k : Int) + 1) (by omega) (by omega)) w_mn_RX0_39 dX0_firstSet_36 (by rfl) (Nat.le_of_ble_eq_true rfl) (by decide) (by omega) (fun _ _ _ h _ => False.elim h) (fun r_36 w_36 n_36 h_36 hn_36 => ?_)
            obtain ⟨rfl, ew_36, en_36⟩ := h_36
            rw [ew_36, en_36]
            have e9 : ((k : Int) + 1 - 1).toNat = k := by omega
            refine e_ior F dX0_firstSet_39 (by rw [e9]; exact eI_or (by omega) hs.1 hs.2.1) ?_
            refine e_istore_n F dX0_firstSet_40 (by decide) ?_
            refine e_iinc F dX0_firstSet_41 rfl (by decide) ?_
            refine e_iinc F dX0_firstSet_44 rfl (by decide) ?_
            refine e_goto F 11 dX0_firstSet_47 (by decide) ?_
            refine e_go (ih (k + 1) (by omega) (by omega)) ?_
            rw [q1]
            exact And.intro rfl (And.intro rfl (And.intro rfl (And.intro rfl trivial)))
  refine e_iconst F dX0_firstSet_0 ?_
  refine e_istore_n F dX0_firstSet_1 (by decide) ?_
  refine e_aload_n F dX0_firstSet_2 rfl ?_
  refine e_get (ci := 0) (fi := 1) (q := (RX0, TX0, 5)) F (by first | assumption | exact e_up_s | (rw [e_up_n (by first | assumption | omega)]; first | assumption | exact e_up_s | (rw [e_up_n (by first | assumption | omega)]; first | assumption | exact e_up_s | (rw [e_up_n (by first | assumption | omega)]; first | assumption | exact e_up_s))) | exact hD.1 | exact hD1.1 | exact hD2.1 | exact gD.1 | exact gD1.1 | exact gD2.1 | exact gQ.1 | exact hQ.1 | exact gS.1 | exact hS.1 | exact zD.1) rfl (by decide) w_fl_RX0_25 (by rfl) dX0_firstSet_3 ?_
  refine e_iconst F dX0_firstSet_6 ?_
  refine e_iadd F dX0_firstSet_7 ?_
  refine e_istore_n F dX0_firstSet_8 (by decide) ?_
  refine e_iconst F dX0_firstSet_9 ?_
  refine e_istore_n F dX0_firstSet_10 (by decide) ?_
  exact e_go (lp 8 0 (by omega) (by omega)) (And.intro rfl (And.intro rfl (And.intro rfl (And.intro rfl (trivial)))))
set_option maxHeartbeats 4000000 in
set_option maxRecDepth 100000 in
theorem c_X0_isThere {K : e_K} {l : Launch} {w : e_W} {n : Nat} {d : Nat} {fl dg sc : Int} {A B : Int → Int} (hD : DL w d fl dg sc A B) {set : Int} (hs0 : 0 ≤ set) (hs1 : set < 128) : e_Met K l yX0_isThere (Cond.code yX0_isThere cX0_isThere 2 (Option.some .boolean) :: e_TB) (2) (0) [.ref d, .int (eI set)] w n (fun r w' n' => r = some (.int (eI (b01 (fl = 1 ∧ thr A set)))) ∧ w' = w ∧ n' = n) (e_px0) := by
  refine e_ofV rfl (Nat.le_of_ble_eq_true rfl) ?_
  intro P9 E9 S9 M9 A9 B9 T9 C9 F hnm
  have hD0 := hD
  obtain ⟨h0, ⟨f, hf, hfA⟩, ⟨g, hg, hgB⟩, hfl, hdg, hsc, hA, hB⟩ := hD
  have hs := st7_rg A
  have hand : (st7 A).toNat &&& set.toNat ≤ (st7 A).toNat := Nat.and_le_left
  refine e_aload_n F dX0_isThere_0 rfl ?_
  refine e_get (ci := 0) (fi := 0) (q := (RX0, TX0, 5)) F (by first | assumption | exact e_up_s | (rw [e_up_n (by first | assumption | omega)]; first | assumption | exact e_up_s | (rw [e_up_n (by first | assumption | omega)]; first | assumption | exact e_up_s | (rw [e_up_n (by first | assumption | omega)]; first | assumption | exact e_up_s))) | exact hD.1 | exact hD1.1 | exact hD2.1 | exact gD.1 | exact gD1.1 | exact gD2.1 | exact gQ.1 | exact hQ.1 | exact gS.1 | exact hS.1 | exact zD.1) rfl (by decide) w_fl_RX0_21 (by rfl) dX0_isThere_1 ?_
  refine e_if_eq F 21 dX0_isThere_4 (by decide) (⟨by omega, by omega⟩) (fun c_4 => ?_) (fun c_4 => ?_)
  · refine e_iconst F dX0_isThere_21 ?_
    refine e_zret F rfl (by omega) (by omega) ?_ dX0_isThere_22
    refine ⟨?_, rfl, rfl⟩
    first | rw [b01_f (by omega)] | rw [b01_t (by omega)]
  · refine e_aload_n F dX0_isThere_7 rfl ?_
    refine e_callVV F u_X0_holderSet (by rfl) (c_X0_holderSet hD0) (by first | assumption | exact e_up_s | (rw [e_up_n (by first | assumption | omega)]; first | assumption | exact e_up_s | (rw [e_up_n (by first | assumption | omega)]; first | assumption | exact e_up_s | (rw [e_up_n (by first | assumption | omega)]; first | assumption | exact e_up_s))) | exact hD.1 | exact hD1.1 | exact hD2.1 | exact gD.1 | exact gD1.1 | exact gD2.1 | exact gQ.1 | exact hQ.1 | exact gS.1 | exact hS.1 | exact zD.1) rfl rfl w_ml_RX0_42 dX0_isThere_8 (by rfl) (Nat.le_of_ble_eq_true rfl) (by decide) (by omega) (fun _ _ _ h _ => False.elim h) (fun r_8 w_8 n_8 h_8 hn_8 => ?_)
    obtain ⟨rfl, ew_8, en_8⟩ := h_8
    rw [ew_8, en_8]
    refine e_iload_n F dX0_isThere_11 rfl ?_
    refine e_iand F dX0_isThere_12 (eI_and hs.1 hs.2 hs0 hs1) ?_
    refine e_iload_n F dX0_isThere_13 rfl ?_
    refine e_icmp_ne F 21 dX0_isThere_14 (by decide) (⟨by omega, by omega⟩) (⟨by omega, by omega⟩) (fun c_14 => ?_) (fun c_14 => ?_)
    · refine e_iconst F dX0_isThere_21 ?_
      refine e_zret F rfl (by omega) (by omega) ?_ dX0_isThere_22
      refine ⟨?_, rfl, rfl⟩
      first | rw [b01_f (by omega)] | rw [b01_t (by omega)]
    · refine e_iconst F dX0_isThere_17 ?_
      refine e_goto F 22 dX0_isThere_18 (by decide) ?_
      refine e_zret F rfl (by omega) (by omega) ?_ dX0_isThere_22
      refine ⟨?_, rfl, rfl⟩
      first | rw [b01_f (by omega)] | rw [b01_t (by omega)]
set_option maxHeartbeats 4000000 in
set_option maxRecDepth 100000 in
theorem c_X0_isEnough {K : e_K} {l : Launch} {w : e_W} {n : Nat} {d : Nat} {fl dg sc : Int} {A B : Int → Int} (hD : DL w d fl dg sc A B) {set : Int} (hs0 : 0 ≤ set) (hs1 : set < 128) : e_Met K l yX0_isEnough (Cond.code yX0_isEnough cX0_isEnough 2 (Option.some .boolean) :: e_TB) (3) (0) [.ref d, .int (eI set)] w n (fun r w' n' => r = some (.int (eI (b01 ((fl = 1 ∧ thr A set) ∧ dg < bc set)))) ∧ w' = w ∧ n' = n) (e_px0) := by
  refine e_ofV rfl (Nat.le_of_ble_eq_true rfl) ?_
  intro P9 E9 S9 M9 A9 B9 T9 C9 F hnm
  have hD0 := hD
  obtain ⟨h0, ⟨f, hf, hfA⟩, ⟨g, hg, hgB⟩, hfl, hdg, hsc, hA, hB⟩ := hD
  obtain ⟨k9, rfl⟩ : ∃ k : Nat, set = (k : Int) := ⟨set.toNat, by omega⟩
  have hbc : 0 ≤ bc (k9 : Int) ∧ bc (k9 : Int) ≤ 7 := by unfold bc; omega
  refine e_aload_n F dX0_isEnough_0 rfl ?_
  refine e_iload_n F dX0_isEnough_1 rfl ?_
  refine e_callVV F u_X0_isThere (by rfl) (c_X0_isThere hD0 hs0 hs1) (by first | assumption | exact e_up_s | (rw [e_up_n (by first | assumption | omega)]; first | assumption | exact e_up_s | (rw [e_up_n (by first | assumption | omega)]; first | assumption | exact e_up_s | (rw [e_up_n (by first | assumption | omega)]; first | assumption | exact e_up_s))) | exact hD.1 | exact hD1.1 | exact hD2.1 | exact gD.1 | exact gD1.1 | exact gD2.1 | exact gQ.1 | exact hQ.1 | exact gS.1 | exact hS.1 | exact zD.1) rfl rfl w_ml_RX0_51 dX0_isEnough_2 (by rfl) (Nat.le_of_ble_eq_true rfl) (by decide) (by omega) (fun _ _ _ h _ => False.elim h) (fun r_2 w_2 n_2 h_2 hn_2 => ?_)
  obtain ⟨rfl, ew_2, en_2⟩ := h_2
  rw [ew_2, en_2]
  refine e_if_eq F 23 dX0_isEnough_5 (by decide) (b01_r _) (fun c_5 => ?_) (fun c_5 => ?_)
  ·
    rw [b01_0] at c_5
    refine e_iconst F dX0_isEnough_23 ?_
    refine e_zret F rfl (by omega) (by omega) ?_ dX0_isEnough_24
    refine ⟨?_, rfl, rfl⟩
    first | (rw [b01_t]; exact ⟨c_5, by omega⟩) | (rw [b01_f]; exact fun q => c_5 q.1) | (rw [b01_f]; exact fun q => by omega)
  ·
    rw [b01_0, Classical.not_not] at c_5
    refine e_iload_n F dX0_isEnough_8 rfl ?_
    refine e_callSS F u_J6_bitCount_0f7a4 (by rfl) (c_J6_bitCount_0f7a4 (k := k9) (by omega)) w_ml_RX0_46 dX0_isEnough_9 (by rfl) (Nat.le_of_ble_eq_true rfl) (by decide) (by omega) (fun _ _ _ h _ => False.elim h) (fun r_9 w_9 n_9 h_9 hn_9 => ?_)
    obtain ⟨rfl, ew_9, en_9⟩ := h_9
    rw [ew_9, en_9]
    refine e_aload_n F dX0_isEnough_12 rfl ?_
    refine e_get (ci := 0) (fi := 1) (q := (RX0, TX0, 5)) F (by first | assumption | exact e_up_s | (rw [e_up_n (by first | assumption | omega)]; first | assumption | exact e_up_s | (rw [e_up_n (by first | assumption | omega)]; first | assumption | exact e_up_s | (rw [e_up_n (by first | assumption | omega)]; first | assumption | exact e_up_s))) | exact hD.1 | exact hD1.1 | exact hD2.1 | exact gD.1 | exact gD1.1 | exact gD2.1 | exact gQ.1 | exact hQ.1 | exact gS.1 | exact hS.1 | exact zD.1) rfl (by decide) w_fl_RX0_25 (by rfl) dX0_isEnough_13 ?_
    refine e_icmp_le F 23 dX0_isEnough_16 (by decide) (⟨by omega, by omega⟩) (⟨by omega, by omega⟩) (fun c_16 => ?_) (fun c_16 => ?_)
    · refine e_iconst F dX0_isEnough_23 ?_
      refine e_zret F rfl (by omega) (by omega) ?_ dX0_isEnough_24
      refine ⟨?_, rfl, rfl⟩
      first | (rw [b01_t]; exact ⟨c_5, by omega⟩) | (rw [b01_f]; exact fun q => c_5 q.1) | (rw [b01_f]; exact fun q => by omega)
    · refine e_iconst F dX0_isEnough_19 ?_
      refine e_goto F 24 dX0_isEnough_20 (by decide) ?_
      refine e_zret F rfl (by omega) (by omega) ?_ dX0_isEnough_24
      refine ⟨?_, rfl, rfl⟩
      first | (rw [b01_t]; exact ⟨c_5, by omega⟩) | (rw [b01_f]; exact fun q => c_5 q.1) | (rw [b01_f]; exact fun q => by omega)
