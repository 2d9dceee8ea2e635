/-! takeText, begins, text of the reference -/
theorem m_up_up {α : Type} {f : Nat → Nat → α} {a j : Nat} {u v : α} : m_up (m_up f a j u) a j v = m_up f a j v := by
  funext b i
  simp only [m_up]
  split <;> rfl
/-- how deep a column is free of blocks -/
def a_clr (J : Nat → Nat → Int) (M x : Nat) : Nat → Int
  | 0 => J (M + 2) 1
  | k + 1 => if (J (M + 7) k ≤ (x : Int) ∧ (x : Int) ≤ J (M + 8) k) ∧ J (M + 9) k < a_clr J M x k then J (M + 9) k else a_clr J M x k
def md_tp (J : Nat → Nat → Int) (M : Nat) (k : Nat) : Nat → Nat → Int := fun b i => if b = M + 16 ∧ i < k then J b (16 + i) else if b = M + 17 ∧ i < k then a_clr J M i (J (M + 2) 7).toNat else J b i
theorem md_tp_s (J : Nat → Nat → Int) (M k : Nat) : m_up (m_up (md_tp J M k) (M + 16) k (J (M + 16) (16 + k))) (M + 17) k (a_clr J M k (J (M + 2) 7).toNat) = md_tp J M (k + 1) := by
  funext b i
  rw [m_up_at, m_up_at]
  unfold md_tp
  by_cases h1 : b = M + 17 ∧ i = k
  · rw [if_pos h1, if_neg (by omega), if_pos (by omega), h1.2]
  · rw [if_neg h1]
    by_cases h0 : b = M + 16 ∧ i = k
    · rw [if_pos h0, if_pos (by omega), h0.1, h0.2]
    · rw [if_neg h0]
      by_cases h : b = M + 16 ∧ i < k
      · rw [if_pos h, if_pos (by omega)]
      · rw [if_neg h]
        by_cases h2 : b = M + 17 ∧ i < k
        · rw [if_pos h2, if_neg (by omega), if_pos (by omega)]
        · rw [if_neg h2, if_neg (by omega), if_neg (by omega)]
theorem md_tp_o (J : Nat → Nat → Int) (M k : Nat) {b i : Nat} (h : b ≠ M + 16) (h2 : b ≠ M + 17) : md_tp J M k b i = J b i := by
  unfold md_tp
  rw [if_neg (fun q => h q.1), if_neg (fun q => h2 q.1)]
theorem a_clr_bd {J : Nat → Nat → Int} {M x : Nat} (h0 : 0 ≤ J (M + 2) 1 ∧ J (M + 2) 1 ≤ 6) : ∀ k : Nat, (∀ i, i < k → 0 ≤ J (M + 9) i ∧ J (M + 9) i ≤ 6) → 0 ≤ a_clr J M x k ∧ a_clr J M x k ≤ 6 := by
  intro k
  induction k with
  | zero => intro _; exact h0
  | succ k ih =>
    intro h
    have h1 := ih (fun i hi => h i (by omega))
    have h2 := h k (by omega)
    unfold a_clr
    split <;> omega
section MDTA
variable {en : Nat → Nat} {d : Nat} {T : Nat → Option (Nat × Nat)} {J J0 J1 B K : Nat → Nat → Int} {P : Nat → Nat → Option Nat} {L : Nat → Nat → Int64} {z w M : Nat} {Q : m_Q} {σ : a_S} {a p s v k g : Int}
theorem l_Md_ta1 (hM : md_sh en M T P) {x : Nat} (hx : x < 16) (eK : ∀ b i, b ≠ M + 16 → b ≠ M + 17 → K b i = J b i) (hn : 0 ≤ J (M + 2) 7 ∧ J (M + 2) 7 ≤ 6) (h1 : 0 ≤ J (M + 2) 1 ∧ J (M + 2) 1 ≤ 6) (hb : ∀ i : Nat, i < 6 → (0 ≤ J (M + 7) i ∧ J (M + 7) i < 16) ∧ (0 ≤ J (M + 8) i ∧ J (M + 8) i < 16) ∧ 0 ≤ J (M + 9) i ∧ J (M + 9) i ≤ 6)
    (hq : ∀ o2, m_wp en d mMd_takeText 260 [some (.ref M), some (.int (m_i ((x : Int) + 1))), o2] [] (T, m_I (m_up K (M + 17) x (a_clr J M x (J (M + 2) 7).toNat)), P, L, z, w) Q) :
    ∀ (m k : Nat), (k : Int) + m = J (M + 2) 7 → m_wp en d mMd_takeText 295 [some (.ref M), some (.int (m_i (x : Int))), some (.int (m_i (k : Int)))] [] (T, m_I (m_up K (M + 17) x (a_clr J M x k)), P, L, z, w) Q := by
  have e7 : K (M + 2) 7 = J (M + 2) 7 := eK _ _ (by omega) (by omega)
  have ex : ((x : Int)).toNat = x := Int.toNat_natCast x
  intro m
  induction m with
  | zero =>
    intro k hk
    have ek : (J (M + 2) 7).toNat = k := by omega
    rw [ek] at hq
    refine r_iln eMd_takeText_295 rfl ?_
    refine r_aln eMd_takeText_296 rfl ?_
    refine m_getR eMd_takeText_297 rfl hM.2.1 (md_number_p hM) ?_
    refine r_bip eMd_takeText_300 (by decide) ?_
    refine r_ialde (x := K (M + 2) 7) eMd_takeText_302 (md_number_t hM) (by decide) (by omega) (by omega) (by simp [m_up, md_put_at, m_fl]) ?_
    refine r_cge (tgt := 359) eMd_takeText_303 rfl ⟨(by omega), (by omega)⟩ ⟨(by omega), (by omega)⟩ (fun c303 => ?_) (fun c303 => ?_)
    · refine r_inc (ls' := [some (.ref M), some (.int (m_i ((x : Int) + 1))), some (.int (m_i ((k : Int))))]) eMd_takeText_359 rfl rfl ?_
      refine r_go (tgt := 260) eMd_takeText_362 rfl ?_
      exact hq _
    · exfalso; omega
  | succ m ih =>
    intro k hk
    have hbk := hb k (by omega)
    have e7k : K (M + 7) (k : Int).toNat = J (M + 7) k := by rw [Int.toNat_natCast]; exact eK _ _ (by omega) (by omega)
    have e8k : K (M + 8) (k : Int).toNat = J (M + 8) k := by rw [Int.toNat_natCast]; exact eK _ _ (by omega) (by omega)
    have e9k : K (M + 9) (k : Int).toNat = J (M + 9) k := by rw [Int.toNat_natCast]; exact eK _ _ (by omega) (by omega)
    have ec : m_up K (M + 17) x (a_clr J M x k) (M + 17) (x : Int).toNat = a_clr J M x k := by rw [ex]; exact m_up_same
    have hcb := a_clr_bd (x := x) h1 k (fun i hi => (hb i (by omega)).2.2)
    have hi := ih (k + 1) (by omega)
    unfold a_clr at hi
    refine r_iln eMd_takeText_295 rfl ?_
    refine r_aln eMd_takeText_296 rfl ?_
    refine m_getR eMd_takeText_297 rfl hM.2.1 (md_number_p hM) ?_
    refine r_bip eMd_takeText_300 (by decide) ?_
    refine r_ialde (x := K (M + 2) 7) eMd_takeText_302 (md_number_t hM) (by decide) (by omega) (by omega) (by simp [m_up, md_put_at, m_fl]) ?_
    refine r_cge (tgt := 359) eMd_takeText_303 rfl ⟨(by omega), (by omega)⟩ ⟨(by omega), (by omega)⟩ (fun c303 => ?_) (fun c303 => ?_)
    · exfalso; omega
    · refine r_iln eMd_takeText_306 rfl ?_
      refine r_aln eMd_takeText_307 rfl ?_
      refine m_getR eMd_takeText_308 rfl hM.2.1 (md_blockFrom_p hM) ?_
      refine r_iln eMd_takeText_311 rfl ?_
      refine r_ialde (x := K (M + 7) (((k : Int)).toNat)) eMd_takeText_312 (md_blockFrom_t hM) (by decide) (by omega) (by omega) (by simp [m_up, md_put_at, m_fl]) ?_
      refine r_clt (tgt := 353) eMd_takeText_313 rfl ⟨(by omega), (by omega)⟩ ⟨(by omega), (by omega)⟩ (fun c313 => ?_) (fun c313 => ?_)
      · refine r_inc (ls' := [some (.ref M), some (.int (m_i ((x : Int)))), some (.int (m_i ((k : Int) + 1)))]) eMd_takeText_353 rfl rfl ?_
        refine r_go (tgt := 295) eMd_takeText_356 rfl ?_
        first | (rw [if_neg (by omega)] at hi; exact hi) | (rw [if_pos (by omega)] at hi; show m_wp en _ mMd_takeText 295 [some (.ref M), some (.int (m_i ((x : Int)))), some (.int (m_i ((k : Int) + 1)))] [] (T, m_I ((m_up K (M + 17) x (a_clr J M x k))), P, L, z, w) Q; rw [ex, m_up_up, e9k]; exact hi)
      · refine r_iln eMd_takeText_316 rfl ?_
        refine r_aln eMd_takeText_317 rfl ?_
        refine m_getR eMd_takeText_318 rfl hM.2.1 (md_blockTo_p hM) ?_
        refine r_iln eMd_takeText_321 rfl ?_
        refine r_ialde (x := K (M + 8) (((k : Int)).toNat)) eMd_takeText_322 (md_blockTo_t hM) (by decide) (by omega) (by omega) (by simp [m_up, md_put_at, m_fl]) ?_
        refine r_cgt (tgt := 353) eMd_takeText_323 rfl ⟨(by omega), (by omega)⟩ ⟨(by omega), (by omega)⟩ (fun c323 => ?_) (fun c323 => ?_)
        · refine r_inc (ls' := [some (.ref M), some (.int (m_i ((x : Int)))), some (.int (m_i ((k : Int) + 1)))]) eMd_takeText_353 rfl rfl ?_
          refine r_go (tgt := 295) eMd_takeText_356 rfl ?_
          first | (rw [if_neg (by omega)] at hi; exact hi) | (rw [if_pos (by omega)] at hi; show m_wp en _ mMd_takeText 295 [some (.ref M), some (.int (m_i ((x : Int)))), some (.int (m_i ((k : Int) + 1)))] [] (T, m_I ((m_up K (M + 17) x (a_clr J M x k))), P, L, z, w) Q; rw [ex, m_up_up, e9k]; exact hi)
        · refine r_aln eMd_takeText_326 rfl ?_
          refine m_getR eMd_takeText_327 rfl hM.2.1 (md_blockFree_p hM) ?_
          refine r_iln eMd_takeText_330 rfl ?_
          refine r_ialde (x := K (M + 9) (((k : Int)).toNat)) eMd_takeText_331 (md_blockFree_t hM) (by decide) (by omega) (by omega) (by simp [m_up, md_put_at, m_fl]) ?_
          refine r_aln eMd_takeText_332 rfl ?_
          refine m_getR eMd_takeText_333 rfl hM.2.1 (md_clear_p hM) ?_
          refine r_iln eMd_takeText_336 rfl ?_
          refine r_ialde (x := (m_up K (M + 17) x (a_clr J M x k)) (M + 17) (((x : Int)).toNat)) eMd_takeText_337 (md_clear_t hM) (by decide) (by omega) (by omega) rfl ?_
          rw [ec]
          refine r_cge (tgt := 353) eMd_takeText_338 rfl ⟨(by omega), (by omega)⟩ ⟨(by omega), (by omega)⟩ (fun c338 => ?_) (fun c338 => ?_)
          · refine r_inc (ls' := [some (.ref M), some (.int (m_i ((x : Int)))), some (.int (m_i ((k : Int) + 1)))]) eMd_takeText_353 rfl rfl ?_
            refine r_go (tgt := 295) eMd_takeText_356 rfl ?_
            first | (rw [if_neg (by omega)] at hi; exact hi) | (rw [if_pos (by omega)] at hi; show m_wp en _ mMd_takeText 295 [some (.ref M), some (.int (m_i ((x : Int)))), some (.int (m_i ((k : Int) + 1)))] [] (T, m_I ((m_up K (M + 17) x (a_clr J M x k))), P, L, z, w) Q; rw [ex, m_up_up, e9k]; exact hi)
          · refine r_aln eMd_takeText_341 rfl ?_
            refine m_getR eMd_takeText_342 rfl hM.2.1 (md_clear_p hM) ?_
            refine r_iln eMd_takeText_345 rfl ?_
            refine r_aln eMd_takeText_346 rfl ?_
            refine m_getR eMd_takeText_347 rfl hM.2.1 (md_blockFree_p hM) ?_
            refine r_iln eMd_takeText_350 rfl ?_
            refine r_ialde (x := K (M + 9) (((k : Int)).toNat)) eMd_takeText_351 (md_blockFree_t hM) (by decide) (by omega) (by omega) (by simp [m_up, md_put_at, m_fl]) ?_
            refine r_iast eMd_takeText_352 (md_clear_t hM) (by decide) (by omega) (by omega) (md_b hM 17) ?_
            refine r_inc (ls' := [some (.ref M), some (.int (m_i ((x : Int)))), some (.int (m_i ((k : Int) + 1)))]) eMd_takeText_353 rfl rfl ?_
            refine r_go (tgt := 295) eMd_takeText_356 rfl ?_
            first | (rw [if_neg (by omega)] at hi; exact hi) | (rw [if_pos (by omega)] at hi; show m_wp en _ mMd_takeText 295 [some (.ref M), some (.int (m_i ((x : Int)))), some (.int (m_i ((k : Int) + 1)))] [] (T, m_I ((m_up (m_up K (M + 17) x (a_clr J M x k)) (M + 17) (((x : Int)).toNat) (K (M + 9) (((k : Int)).toNat)))), P, L, z, w) Q; rw [ex, m_up_up, e9k]; exact hi)
theorem l_Md_ta2 (hM : md_sh en M T P) (hn : 0 ≤ J (M + 2) 7 ∧ J (M + 2) 7 ≤ 6) (h1 : 0 ≤ J (M + 2) 1 ∧ J (M + 2) 1 ≤ 6) (hb : ∀ i : Nat, i < 6 → (0 ≤ J (M + 7) i ∧ J (M + 7) i < 16) ∧ (0 ≤ J (M + 8) i ∧ J (M + 8) i < 16) ∧ 0 ≤ J (M + 9) i ∧ J (M + 9) i ≤ 6)
    (hq : Q none (T, m_I (md_tp J M 16), P, L, z, w)) :
    ∀ (m x : Nat) (o2 : Option Value), x + m = 16 → m_wp en d mMd_takeText 260 [some (.ref M), some (.int (m_i (x : Int))), o2] [] (T, m_I (md_tp J M x), P, L, z, w) Q := by
  intro m
  induction m with
  | zero =>
    intro x o2 hx
    obtain rfl : x = 16 := by omega
    refine r_iln eMd_takeText_260 rfl ?_
    refine r_bip eMd_takeText_261 (by decide) ?_
    refine r_cge (tgt := 365) eMd_takeText_263 rfl ⟨(by omega), (by omega)⟩ ⟨(by omega), (by omega)⟩ (fun c263 => ?_) (fun c263 => ?_)
    · refine r_ret eMd_takeText_365 rfl ?_
      exact hq
    · exfalso; omega
  | succ m ih =>
    intro x o2 hx
    have ex : ((x : Int)).toNat = x := Int.toNat_natCast x
    have e16 : md_tp J M x (M + 16) (16 + (x : Int)).toNat = J (M + 16) (16 + x) := by
      rw [show (16 + (x : Int)).toNat = 16 + x by omega]
      unfold md_tp
      rw [if_neg (by omega), if_neg (by omega)]
    have e2 : md_tp J M x (M + 2) 1 = J (M + 2) 1 := md_tp_o J M x (by omega) (by omega)
    have hin := l_Md_ta1 (d := d) (z := z) (w := w) (L := L) (P := P) (Q := Q) (J := J) (K := m_up (md_tp J M x) (M + 16) x (J (M + 16) (16 + x))) hM (show x < 16 by omega) (fun b i a1 a2 => by rw [m_up_at, if_neg (fun q => a1 q.1)]; exact md_tp_o J M x a1 a2) hn h1 hb (fun o => by rw [md_tp_s]; exact ih (x + 1) o (by omega)) (J (M + 2) 7).toNat 0 (by omega)
    refine r_iln eMd_takeText_260 rfl ?_
    refine r_bip eMd_takeText_261 (by decide) ?_
    refine r_cge (tgt := 365) eMd_takeText_263 rfl ⟨(by omega), (by omega)⟩ ⟨(by omega), (by omega)⟩ (fun c263 => ?_) (fun c263 => ?_)
    · exfalso; omega
    · refine r_aln eMd_takeText_266 rfl ?_
      refine m_getR eMd_takeText_267 rfl hM.2.1 (md_pileTold_p hM) ?_
      refine r_iln eMd_takeText_270 rfl ?_
      refine r_aln eMd_takeText_271 rfl ?_
      refine m_getR eMd_takeText_272 rfl hM.2.1 (md_pileTold_p hM) ?_
      refine r_bip eMd_takeText_275 (by decide) ?_
      refine r_iln eMd_takeText_277 rfl ?_
      refine r_add eMd_takeText_278 ?_
      refine r_ialde (x := (md_tp J M x) (M + 16) (((16) + ((x : Int))).toNat)) eMd_takeText_279 (md_pileTold_t hM) (by decide) (by omega) (by omega) rfl ?_
      refine r_iast eMd_takeText_280 (md_pileTold_t hM) (by decide) (by omega) (by omega) (md_b hM 16) ?_
      refine r_aln eMd_takeText_281 rfl ?_
      refine m_getR eMd_takeText_282 rfl hM.2.1 (md_clear_p hM) ?_
      refine r_iln eMd_takeText_285 rfl ?_
      refine r_aln eMd_takeText_286 rfl ?_
      refine m_getR eMd_takeText_287 rfl hM.2.1 (md_number_p hM) ?_
      refine r_con eMd_takeText_290 ?_
      refine r_ialde (x := (md_tp J M x) (M + 2) 1) eMd_takeText_291 (md_number_t hM) (by decide) (by omega) (by omega) (by simp [m_up, md_put_at, m_fl]) ?_
      refine r_iast eMd_takeText_292 (md_clear_t hM) (by decide) (by omega) (by omega) (md_b hM 17) ?_
      refine r_con eMd_takeText_293 ?_
      refine r_isn (ls' := [some (.ref M), some (.int (m_i ((x : Int)))), some (.int (m_i (0)))]) eMd_takeText_294 (Nat.le_of_ble_eq_true rfl) rfl ?_
      show m_wp en _ mMd_takeText 295 [some (.ref M), some (.int (m_i ((x : Int)))), some (.int (m_i (0)))] [] (T, m_I ((m_up (m_up (md_tp J M x) (M + 16) (((x : Int)).toNat) ((md_tp J M x) (M + 16) (((16) + ((x : Int))).toNat))) (M + 17) (((x : Int)).toNat) ((md_tp J M x) (M + 2) 1))), P, L, z, w) Q
      rw [ex, e16, e2]
      exact hin
/-- what a text tells is taken -/
def md_t1 (J : Nat → Nat → Int) (M : Nat) : Nat → Nat → Int := m_fl J (M + 2) 0 (fun i => J (M + 2) (13 + i)) 13
def md_t2 (J : Nat → Nat → Int) (M : Nat) : Nat → Nat → Int := a_td (md_t1 J M) (M + 4) (M + 9) 6 6
def md_t3 (J : Nat → Nat → Int) (M : Nat) : Nat → Nat → Int := a_td (md_t2 J M) (M + 10) (M + 11) 8 8
def md_t4 (J : Nat → Nat → Int) (M : Nat) : Nat → Nat → Int := a_td (md_t3 J M) (M + 12) (M + 13) 16 16
def md_t5 (J : Nat → Nat → Int) (M : Nat) : Nat → Nat → Int := a_td (md_t4 J M) (M + 14) (M + 15) 3 3
def md_tt (J : Nat → Nat → Int) (M : Nat) : Nat → Nat → Int := md_tp (md_t5 J M) M 16
theorem md_t5_2 (J : Nat → Nat → Int) (M : Nat) {i : Nat} (hi : i < 13) : md_t5 J M (M + 2) i = J (M + 2) (13 + i) := by
  unfold md_t5 md_t4 md_t3 md_t2
  rw [a_td_x (by omega), a_td_x (by omega), a_td_x (by omega), a_td_x (by omega)]
  exact m_fl_i (by omega)
theorem md_t5_6 (J : Nat → Nat → Int) (M : Nat) {b i : Nat} (hb : M + 4 ≤ b ∧ b ≤ M + 9) (hi : i < 6) : md_t5 J M b i = J b (6 + i) := by
  unfold md_t5 md_t4 md_t3 md_t2
  rw [a_td_x (by omega), a_td_x (by omega), a_td_x (by omega), a_td_i (by omega)]
  unfold md_t1
  rw [m_fl_o (by omega)]
theorem md_t5_x (J : Nat → Nat → Int) (M : Nat) {b i : Nat} (hb : b < M + 2 ∨ M + 15 < b ∨ b = M + 3) : md_t5 J M b i = J b i := by
  unfold md_t5 md_t4 md_t3 md_t2 md_t1
  rw [a_td_x (by omega), a_td_x (by omega), a_td_x (by omega), a_td_x (by omega), m_fl_o (by omega)]
theorem c_Md_takeText (hM : md_sh en M T P) (hd : dr_b J M) (hq : Q none (T, m_I (md_tt J M), P, L, z, w)) : m_call en (d + 2) mMd_takeText [.ref M] (T, m_I J, P, L, z, w) Q := by
  have n7 : 0 ≤ md_t5 J M (M + 2) 7 ∧ md_t5 J M (M + 2) 7 ≤ 6 := by rw [md_t5_2 J M (by omega)]; exact hd.1 7 (by omega)
  have n1 : 0 ≤ md_t5 J M (M + 2) 1 ∧ md_t5 J M (M + 2) 1 ≤ 6 := by
    rw [md_t5_2 J M (by omega)]
    have h9 : 2 ≤ J (M + 2) (13 + 1) ∧ J (M + 2) (13 + 1) ≤ 6 := hd.1 1 (by omega)
    omega
  have hb6 : ∀ i : Nat, i < 6 → (0 ≤ md_t5 J M (M + 7) i ∧ md_t5 J M (M + 7) i < 16) ∧ (0 ≤ md_t5 J M (M + 8) i ∧ md_t5 J M (M + 8) i < 16) ∧ 0 ≤ md_t5 J M (M + 9) i ∧ md_t5 J M (M + 9) i ≤ 6 := fun i hi => by
    rw [md_t5_6 J M (by omega) hi, md_t5_6 J M (by omega) hi, md_t5_6 J M (by omega) hi]
    have h7 : 0 ≤ J (M + 7) (6 + i) ∧ J (M + 7) (6 + i) ≤ 15 := hd.2.1 7 (by omega) (by omega) (6 + i) (by show 6 + i < 12; omega)
    have h8 : 0 ≤ J (M + 8) (6 + i) ∧ J (M + 8) (6 + i) ≤ 15 := hd.2.1 8 (by omega) (by omega) (6 + i) (by show 6 + i < 12; omega)
    have h9 : 0 ≤ J (M + 9) (6 + i) ∧ J (M + 9) (6 + i) ≤ 6 := hd.2.1 9 (by omega) (by omega) (6 + i) (by show 6 + i < 12; omega)
    omega
  have h260 : ∀ o2, m_wp en (d + 1) mMd_takeText 258 [some (.ref M), some (.int (m_i 3)), o2] [] (T, m_I (md_t5 J M), P, L, z, w) Q := fun o2 => by
    have h := l_Md_ta2 (d := d + 1) (z := z) (w := w) (L := L) (P := P) (Q := Q) (J := md_t5 J M) hM n7 n1 hb6 hq 16 0 o2 (by omega)
    have e0 : md_tp (md_t5 J M) M 0 = md_t5 J M := by
      funext b i
      unfold md_tp
      rw [if_neg (by omega), if_neg (by omega)]
    rw [e0] at h
    refine r_con eMd_takeText_258 ?_
    refine r_isn (ls' := [some (.ref M), some (.int (m_i (0))), o2]) eMd_takeText_259 (Nat.le_of_ble_eq_true rfl) rfl ?_
    exact h
  have h217 : ∀ o2, m_wp en (d + 1) mMd_takeText 217 [some (.ref M), some (.int (m_i 16)), o2] [] (T, m_I (md_t4 J M), P, L, z, w) Q := fun o2 => by
    have h := l_Md_tt5 (d := d + 1) (z := z) (w := w) (L := L) (P := P) (Q := Q) (J := md_t4 J M) hM h260 3 0 o2 (by omega)
    rw [show ((0 : Nat) : Int) = 0 from rfl, a_td_0] at h
    refine r_con eMd_takeText_217 ?_
    refine r_isn (ls' := [some (.ref M), some (.int (m_i (0))), o2]) eMd_takeText_218 (Nat.le_of_ble_eq_true rfl) rfl ?_
    exact h
  have h173 : ∀ o2, m_wp en (d + 1) mMd_takeText 173 [some (.ref M), some (.int (m_i 8)), o2] [] (T, m_I (md_t3 J M), P, L, z, w) Q := fun o2 => by
    have h := l_Md_tt4 (d := d + 1) (z := z) (w := w) (L := L) (P := P) (Q := Q) (J := md_t3 J M) hM h217 16 0 o2 (by omega)
    rw [show ((0 : Nat) : Int) = 0 from rfl, a_td_0] at h
    refine r_con eMd_takeText_173 ?_
    refine r_isn (ls' := [some (.ref M), some (.int (m_i (0))), o2]) eMd_takeText_174 (Nat.le_of_ble_eq_true rfl) rfl ?_
    exact h
  have h129 : ∀ o2, m_wp en (d + 1) mMd_takeText 129 [some (.ref M), some (.int (m_i 6)), o2] [] (T, m_I (md_t2 J M), P, L, z, w) Q := fun o2 => by
    have h := l_Md_tt3 (d := d + 1) (z := z) (w := w) (L := L) (P := P) (Q := Q) (J := md_t2 J M) hM h173 8 0 o2 (by omega)
    rw [show ((0 : Nat) : Int) = 0 from rfl, a_td_0] at h
    refine r_con eMd_takeText_129 ?_
    refine r_isn (ls' := [some (.ref M), some (.int (m_i (0))), o2]) eMd_takeText_130 (Nat.le_of_ble_eq_true rfl) rfl ?_
    exact h
  have h25 : ∀ o2, m_wp en (d + 1) mMd_takeText 25 [some (.ref M), some (.int (m_i 13)), o2] [] (T, m_I (md_t1 J M), P, L, z, w) Q := fun o2 => by
    have h := l_Md_tt2 (d := d + 1) (z := z) (w := w) (L := L) (P := P) (Q := Q) (J := md_t1 J M) hM h129 6 0 o2 (by omega)
    rw [show ((0 : Nat) : Int) = 0 from rfl, a_td_0] at h
    refine r_con eMd_takeText_25 ?_
    refine r_isn (ls' := [some (.ref M), some (.int (m_i (0))), o2]) eMd_takeText_26 (Nat.le_of_ble_eq_true rfl) rfl ?_
    exact h
  have h := l_Md_tt1 (d := d) (z := z) (w := w) (L := L) (P := P) (Q := Q) (J := J) hM h25 13 0 none (by omega)
  rw [show ((0 : Nat) : Int) = 0 from rfl, m_fl_0] at h
  refine m_into (by decide) (Nat.le_of_ble_eq_true rfl) rfl ?_
  show m_wp en _ mMd_takeText 0 [some (.ref M), none, none] [] (T, m_I J, P, L, z, w) Q
  refine r_con eMd_takeText_0 ?_
  refine r_isn (ls' := [some (.ref M), some (.int (m_i (0))), none]) eMd_takeText_1 (Nat.le_of_ble_eq_true rfl) rfl ?_
  exact h
end MDTA
