/-! a search of the class: worked off, seeded, asked -/
section SEC
variable {en : Nat → Nat} {d : Nat} {T : Nat → Option (Nat × Nat)} {J J0 J1 K H : Nat → Nat → Int} {P : Nat → Nat → Option Nat} {L : Nat → Nat → Int64} {z w A B R U S n X : Nat} {Q : m_Q} {σ τ : a_S} {C : a_C} {h : Int}
theorem c_Se_expand (hS : se_at en S R U n A T P) (ok : a_ok C) (hC : sp_is J A C) {bw most by_ ct : Int} (e5 : J S 5 = bw) (hbw : bw = 0 ∨ bw = 1) (e7 : J S 7 = most) (hmo : 0 ≤ most ∧ most ≤ 100) (hby : 0 ≤ by_ ∧ by_ < 1000) (hct : 0 ≤ ct ∧ ct ≤ 2) (hsz : a_sz C ≤ n) (hw : g_wf C n (se_g J S R U)) {ix : Nat} (hix : ix < (J S 3).toNat) (hσ0 : g_q (se_g J S R U) ix = σ)
    (hq : ∀ J', se_fr J J' S R U → J' S 2 = J S 2 → se_g J' S R U = g_all C n bw most by_ σ (J R (a_nb C σ).toNat / 16 + ct) (se_g J S R U) 9 → Q none (T, m_I J', P, L, z, w)) :
    m_call en (d + 2) mSe_expand [.ref S, .int (m_i (ix : Int)), .int (m_i by_), .int (m_i ct)] (T, m_I J, P, L, z, w) Q := by
  have hS0 := hS
  obtain ⟨⟨b0, t0⟩, ⟨p0, tR, bR⟩, ⟨p1, tU, bU⟩, ⟨p4, hA⟩, ⟨p8, hfm⟩, ⟨p9, hnr⟩, hn, hAS, hRS, hUS, hRU⟩ := hS0
  have h3 : 0 ≤ J S 3 ∧ J S 3 ≤ n := hw.1
  obtain ⟨wi1, wi2, wi3, wi4⟩ := hw.2.2.1 ix hix
  rw [hσ0] at wi1 wi2 wi3 wi4
  have eu : J U ix = a_pk σ := wi2
  have hσ : a_p5 σ := a_is_p5 ok wi1
  have hpb := a_pk_b hσ
  have eup : a_up (J U (ix : Int).toNat) = σ := by rw [Int.toNat_natCast, eu]; exact a_up_pk hσ
  have eun : J U (ix : Int).toNat = a_pk σ := by rw [Int.toNat_natCast, eu]
  have hnb := a_nb_b ok wi1
  have hm0 := hw.2.1 (a_nb C σ).toNat (by omega)
  have hmr : 0 ≤ J R (a_nb C σ).toNat ∧ J R (a_nb C σ).toNat < 2147483648 := hm0
  have hm16 : J R (a_nb C σ).toNat / 16 ≤ 2 * ix := wi4
  have hmz : J R (a_nb C σ).toNat ≠ 0 := wi3
  have emet : a_met (po_put J (S + 3) σ R) n (a_nb C σ) = J R (a_nb C σ).toNat / 16 := by
    unfold a_met
    rw [po_put_o (by omega), if_pos ⟨hnb.1, by omega, hmz⟩]
  have hne := se_at_ne hS
  have hb0 : se_b J (po_put J (S + 3) σ) S R U n C σ := ⟨se_fr_fm se_fr_r, po_put_o (by omega), po_get_put, fun i hi => by rw [po_put_o (fun q => hne.2.1 q.1)]; exact hw.2.1 i hi, by rw [po_put_o (by omega)]; exact h3⟩
  have h49 := l_Se_expand (d := d) (L := L) (z := z) (w := w) hS ok hC hσ (ix := (ix : Int)) (ct := ct) e5 hbw e7 hmo hby (st := J R (a_nb C σ).toNat / 16 + ct) (by omega) hsz hq 9 0 (by omega) (po_put J (S + 3) σ) none hb0 (se_g_fm hne.2.1 hne.2.2.2.2.1)
  clear hRS hUS hRU hbw wi2 wi3 wi4 eu hm0
  refine m_into (by decide) (Nat.le_of_ble_eq_true rfl) rfl ?_
  show m_wp en _ mSe_expand 0 [some (.ref S), some (.int (m_i ((ix : Int)))), some (.int (m_i (by_))), some (.int (m_i (ct))), none, none, none] [] (T, m_I J, P, L, z, w) Q
  refine r_iln eSe_expand_0 rfl ?_
  refine r_zlt (tgt := 13) eSe_expand_1 rfl ⟨(by omega), (by omega)⟩ (fun c1 => ?_) (fun c1 => ?_)
  · refine r_ret eSe_expand_13 rfl ?_
    exfalso; omega
  · refine r_iln eSe_expand_4 rfl ?_
    refine r_aln eSe_expand_5 rfl ?_
    refine m_getR eSe_expand_6 rfl t0 p1 ?_
    refine r_alen eSe_expand_9 tU (by decide) ?_
    refine r_clt (tgt := 14) eSe_expand_10 rfl ⟨(by omega), (by omega)⟩ ⟨(by omega), (by omega)⟩ (fun c10 => ?_) (fun c10 => ?_)
    · refine r_aln eSe_expand_14 rfl ?_
      refine m_getR eSe_expand_15 rfl t0 p8 ?_
      refine r_aln eSe_expand_18 rfl ?_
      refine m_getR eSe_expand_19 rfl t0 p1 ?_
      refine r_iln eSe_expand_22 rfl ?_
      refine r_ialde (x := J U (((ix : Int)).toNat)) eSe_expand_23 tU (by omega) (by omega) (by omega) rfl ?_
      refine r_vir eSe_expand_24 rfl rfl rfl hfm.2.1 rfl rfl ?_
      refine c_Po_unpack hfm ⟨by omega, by omega⟩ ?_
      rw [eup]
      show m_wp en _ mSe_expand 27 [some (.ref S), some (.int (m_i ((ix : Int)))), some (.int (m_i (by_))), some (.int (m_i (ct))), none, none, none] [] (T, m_I (((po_put J (S + 3) σ))), P, L, z, w) Q
      refine r_aln eSe_expand_27 rfl ?_
      refine r_aln eSe_expand_28 rfl ?_
      refine m_getR eSe_expand_29 rfl t0 p4 ?_
      refine r_aln eSe_expand_32 rfl ?_
      refine m_getR eSe_expand_33 rfl t0 p8 ?_
      refine r_vir eSe_expand_36 rfl rfl rfl hA.2.1 rfl rfl ?_
      refine c_Sp_numberOf hA hfm (se_fr_sp hS (se_fr_fm se_fr_r) hC) ok (by rw [po_get_put]; exact a_p5_sm hσ) ?_
      rw [po_get_put]
      show m_wp en _ mSe_expand 39 [some (.ref S), some (.int (m_i ((ix : Int)))), some (.int (m_i (by_))), some (.int (m_i (ct))), none, none, none] [(.int (m_i ((a_nb C σ)))), (.ref S)] (T, m_I (((((po_put J (S + 3) σ))))), P, L, z, w) Q
      refine r_vir eSe_expand_39 rfl rfl rfl t0 rfl rfl ?_
      refine c_Se_stepsMet t0 p0 tR hn (by omega) (fun i hi => by rw [po_put_o (fun q => hne.2.1 q.1)]; have := hw.2.1 i (by omega); exact ⟨by show _ ≤ (se_g J S R U).1 i; omega, this.2⟩) ?_
      rw [emet]
      show m_wp en _ mSe_expand 42 [some (.ref S), some (.int (m_i ((ix : Int)))), some (.int (m_i (by_))), some (.int (m_i (ct))), none, none, none] [(.int (m_i ((J R (a_nb C σ).toNat / 16))))] (T, m_I (((((((po_put J (S + 3) σ))))))), P, L, z, w) Q
      refine r_iln eSe_expand_42 rfl ?_
      refine r_add eSe_expand_43 ?_
      refine r_is (ls' := [some (.ref S), some (.int (m_i ((ix : Int)))), some (.int (m_i (by_))), some (.int (m_i (ct))), some (.int (m_i (((J R (a_nb C σ).toNat / 16)) + (ct)))), none, none]) eSe_expand_44 (Nat.le_of_ble_eq_true rfl) rfl ?_
      refine r_con eSe_expand_46 ?_
      refine r_is (ls' := [some (.ref S), some (.int (m_i ((ix : Int)))), some (.int (m_i (by_))), some (.int (m_i (ct))), some (.int (m_i (((J R (a_nb C σ).toNat / 16)) + (ct)))), some (.int (m_i (0))), none]) eSe_expand_47 (Nat.le_of_ble_eq_true rfl) rfl ?_
      exact h49
    · refine r_ret eSe_expand_13 rfl ?_
      exfalso; omega
theorem c_Se_seed (hS : se_at en S R U n A T P) (ok : a_ok C) (hC : sp_is J A C) (hB : po_sh en B T P) (hπ : a_sm (po_get J B)) (hBR : B ≠ R) (hBU : B ≠ U) (hBS : B ≠ S) (hsz : a_sz C ≤ n) (h3 : 0 ≤ J S 3 ∧ J S 3 < n)
    (h0 : ¬ a_is C (po_get J B) = true → Q none (T, m_I J, P, L, z, w)) (h1 : a_is C (po_get J B) = true → Q none (T, m_I (se_ad J S R U (a_nb C (po_get J B)) 10 (a_pk (po_get J B))), P, L, z, w)) :
    m_call en (d + 2) mSe_seed [.ref S, .ref B] (T, m_I J, P, L, z, w) Q := by
  have hS0 := hS
  obtain ⟨⟨b0, t0⟩, ⟨p0, tR, bR⟩, ⟨p1, tU, bU⟩, ⟨p4, hA⟩, ⟨p8, hfm⟩, ⟨p9, hnr⟩, hn, hAS, hRS, hUS, hRU⟩ := hS0
  have hnb : (0 ≤ a_nb C (po_get J B) ∧ a_nb C (po_get J B) < n ∧ a_is C (po_get J B) = true) ∨ (a_nb C (po_get J B) = -1 ∧ ¬ a_is C (po_get J B) = true) := by
    by_cases e : a_is C (po_get J B) = true
    · have := a_nb_b ok e
      exact Or.inl ⟨this.1, by omega, e⟩
    · exact Or.inr ⟨by unfold a_nb; rw [if_neg e], e⟩
  have hnb2 : (0 ≤ a_nb C (po_get J B) ∧ a_nb C (po_get J B) < n) ∨ a_nb C (po_get J B) = -1 := by
    rcases hnb with q | q
    · exact Or.inl ⟨q.1, q.2.1⟩
    · exact Or.inr q.1
  have hy : 0 ≤ a_nb C (po_get J B) → a_is C (po_get J B) = true := fun q => by
    rcases hnb with r | r
    · exact r.2.2
    · omega
  have hy0 : a_nb C (po_get J B) < 0 → ¬ a_is C (po_get J B) = true := fun q => by
    rcases hnb with r | r
    · omega
    · exact r.2
  have hne := se_at_ne hS
  clear hRS hUS hRU hnb
  unfold se_ad at h1
  refine m_into (by decide) (Nat.le_of_ble_eq_true rfl) rfl ?_
  show m_wp en _ mSe_seed 0 [some (.ref S), some (.ref B), none] [] (T, m_I J, P, L, z, w) Q
  refine r_aln eSe_seed_0 rfl ?_
  refine m_getR eSe_seed_1 rfl t0 p4 ?_
  refine r_aln eSe_seed_4 rfl ?_
  refine r_vir eSe_seed_5 rfl rfl rfl hA.2.1 rfl rfl ?_
  refine c_Sp_numberOf hA hB hC ok hπ ?_
  show m_wp en _ mSe_seed 8 [some (.ref S), some (.ref B), none] [(.int (m_i ((a_nb C (po_get J B)))))] (T, m_I J, P, L, z, w) Q
  refine r_isn (ls' := [some (.ref S), some (.ref B), some (.int (m_i ((a_nb C (po_get J B)))))]) eSe_seed_8 (Nat.le_of_ble_eq_true rfl) rfl ?_
  refine r_iln eSe_seed_9 rfl ?_
  refine r_zlt (tgt := 72) eSe_seed_10 rfl ⟨(by omega), (by omega)⟩ (fun c10 => ?_) (fun c10 => ?_)
  · refine r_ret eSe_seed_72 rfl ?_
    first | exact h1 (hy (by omega)) | exact h0 (hy0 (by omega)) | (exfalso; omega)
  · refine r_iln eSe_seed_13 rfl ?_
    refine r_aln eSe_seed_14 rfl ?_
    refine m_getR eSe_seed_15 rfl t0 p0 ?_
    refine r_alen eSe_seed_18 tR (by decide) ?_
    refine r_cge (tgt := 72) eSe_seed_19 rfl ⟨(by omega), (by omega)⟩ ⟨(by omega), (by omega)⟩ (fun c19 => ?_) (fun c19 => ?_)
    · refine r_ret eSe_seed_72 rfl ?_
      first | exact h1 (hy (by omega)) | exact h0 (hy0 (by omega)) | (exfalso; omega)
    · refine r_aln eSe_seed_22 rfl ?_
      refine r_gete (x := J S 3) eSe_seed_23 rfl (by decide) t0 rfl ?_
      refine r_zlt (tgt := 72) eSe_seed_26 rfl ⟨(by omega), (by omega)⟩ (fun c26 => ?_) (fun c26 => ?_)
      · refine r_ret eSe_seed_72 rfl ?_
        first | exact h1 (hy (by omega)) | exact h0 (hy0 (by omega)) | (exfalso; omega)
      · refine r_aln eSe_seed_29 rfl ?_
        refine r_gete (x := J S 3) eSe_seed_30 rfl (by decide) t0 rfl ?_
        refine r_aln eSe_seed_33 rfl ?_
        refine m_getR eSe_seed_34 rfl t0 p1 ?_
        refine r_alen eSe_seed_37 tU (by decide) ?_
        refine r_cge (tgt := 72) eSe_seed_38 rfl ⟨(by omega), (by omega)⟩ ⟨(by omega), (by omega)⟩ (fun c38 => ?_) (fun c38 => ?_)
        · refine r_ret eSe_seed_72 rfl ?_
          first | exact h1 (hy (by omega)) | exact h0 (hy0 (by omega)) | (exfalso; omega)
        · refine r_aln eSe_seed_41 rfl ?_
          refine m_getR eSe_seed_42 rfl t0 p0 ?_
          refine r_iln eSe_seed_45 rfl ?_
          refine r_bip eSe_seed_46 (by decide) ?_
          refine r_iast eSe_seed_48 tR (by omega) (by omega) (by omega) bR ?_
          refine r_aln eSe_seed_49 rfl ?_
          refine m_getR eSe_seed_50 rfl t0 p1 ?_
          refine r_aln eSe_seed_53 rfl ?_
          refine r_gete (x := J S 3) eSe_seed_54 rfl (by decide) t0 (by rw [m_up_at, if_neg (by first | (exact fun q => absurd q.1 hne.2.2.1) | (exact fun q => absurd q.1 hne.2.1) | (exact fun q => absurd q.1 hne.2.2.2.2.1) | (exact fun q => absurd q.1 hne.2.2.2.2.2.1) | (exact fun q => absurd q.1.symm hne.1) | (exact fun q => absurd q.1.symm hne.2.2.2.1) | (exact fun q => absurd q.1 hne.2.2.2.2.2.2) | (exact fun q => absurd q.1.symm hne.2.2.2.2.2.2) | omega)]) ?_
          refine r_aln eSe_seed_57 rfl ?_
          refine r_vir eSe_seed_58 rfl rfl rfl hB.2.1 rfl rfl ?_
          refine c_Po_packed hB (by rw [po_get_up hBR]; exact a_is_p5 ok (hy (by omega))) ?_
          rw [po_get_up hBR]
          show m_wp en _ mSe_seed 61 [some (.ref S), some (.ref B), some (.int (m_i ((a_nb C (po_get J B)))))] [(.int (m_i ((a_pk (po_get J B))))), (.int (m_i (J S 3))), (.ref U)] (T, m_I ((((m_up J R (((a_nb C (po_get J B))).toNat) (10))))), P, L, z, w) Q
          refine r_iast eSe_seed_61 tU (by omega) (by omega) (by omega) bU ?_
          refine r_aln eSe_seed_62 rfl ?_
          refine r_dupr eSe_seed_63 ?_
          refine r_gete (x := J S 3) eSe_seed_64 rfl (by decide) t0 (by rw [m_up_at, if_neg (by first | (exact fun q => absurd q.1 hne.2.2.1) | (exact fun q => absurd q.1 hne.2.1) | (exact fun q => absurd q.1 hne.2.2.2.2.1) | (exact fun q => absurd q.1 hne.2.2.2.2.2.1) | (exact fun q => absurd q.1.symm hne.1) | (exact fun q => absurd q.1.symm hne.2.2.2.1) | (exact fun q => absurd q.1 hne.2.2.2.2.2.2) | (exact fun q => absurd q.1.symm hne.2.2.2.2.2.2) | omega), m_up_at, if_neg (by first | (exact fun q => absurd q.1 hne.2.2.1) | (exact fun q => absurd q.1 hne.2.1) | (exact fun q => absurd q.1 hne.2.2.2.2.1) | (exact fun q => absurd q.1 hne.2.2.2.2.2.1) | (exact fun q => absurd q.1.symm hne.1) | (exact fun q => absurd q.1.symm hne.2.2.2.1) | (exact fun q => absurd q.1 hne.2.2.2.2.2.2) | (exact fun q => absurd q.1.symm hne.2.2.2.2.2.2) | omega)]) ?_
          refine r_con eSe_seed_67 ?_
          refine r_add eSe_seed_68 ?_
          refine r_put eSe_seed_69 rfl t0 b0 (Or.inl rfl) ?_
          refine r_ret eSe_seed_72 rfl ?_
          first | exact h1 (hy (by omega)) | exact h0 (hy0 (by omega)) | (exfalso; omega)
end SEC
