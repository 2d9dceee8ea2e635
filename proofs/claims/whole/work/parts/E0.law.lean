/-! the law's body on the small machine -/
section LWB
variable {en : Nat → Nat} {d : Nat} {me : m_Me} {pc tgt : Nat} {ls : m_L} {st : List Value} {s : m_S} {Q : m_Q} {X M N O z0 w0 S n : Nat} {T0 T : Nat → Option (Nat × Nat)} {J0 J : Nat → Nat → Int} {P : Nat → Nat → Option Nat} {L : Nat → Nat → Int64} {z w : Nat}
theorem r_ceqs {off : Int} {c : Int32} (hd : decode me.2.2.1 pc = .ok (.if_icmp .eq off, 3)) (ht : (pc : Int) + off = (tgt : Int)) (kt : m_wp en d me tgt ls st s Q) : m_wp en d me pc ls (.int c :: .int c :: st) s Q :=
  m_ic hd ht (fun _ => kt) (fun h => by simp [m_cmp] at h)
theorem r_lald {i : Int} {a m : Nat} {v : Int64} (hd : decode me.2.2.1 pc = .ok (.laload, 1)) (hT : T a = some (24, m)) (hn : m < 2147483648) (h0 : 0 ≤ i) (h1 : i < m) (hL : L a i.toNat = v) (kk : m_wp en d me (pc + 1) ls (.long v :: st) (T, m_I J, P, L, z, w) Q) : m_wp en d me pc ls (.int (m_i i) :: .ref a :: st) (T, m_I J, P, L, z, w) Q := by
  have e := r_ix h0 h1 hn
  refine m_next hd ?_ kk
  simp only [m_st, hT]
  rw [if_pos ⟨trivial, e.1⟩, e.2, hL]
  rfl
theorem r_i2l {c : Int32} (hd : decode me.2.2.1 pc = .ok (.i2l, 1)) (kk : m_wp en d me (pc + 1) ls (.long c.toInt64 :: st) s Q) : m_wp en d me pc ls (.int c :: st) s Q := m_next hd rfl kk
theorem lg_cmp_s (v : Int64) : lg_cmp v v = m_i 0 := by
  unfold lg_cmp
  rw [if_neg (fun q => absurd (Int64.lt_iff_toInt_lt.mp q) (Int.lt_irrefl _)), if_pos rfl]
  rfl
theorem r_lceq {v : Int64} (hd : decode me.2.2.1 pc = .ok (.lcmp, 1)) (kk : m_wp en d me (pc + 1) ls (.int (m_i 0) :: st) s Q) : m_wp en d me pc ls (.long v :: .long v :: st) s Q := m_next hd (by simp only [m_st]; rw [lg_cmp_s]; rfl) kk
set_option maxHeartbeats 4000000 in
theorem l_law (hS : T0 S = some (20, n)) (hn : n ≤ 3072) (hSX : S < X) (hSi : ∀ j, m_in (J0 S j))
    (hq : ∀ k T J P L z w, k ≤ 512 → to_I en X M N O z0 w0 T0 J0 k T J P L z w → Q (some (.int (m_i 1))) (T, m_I J, P, L, z, w)) :
    ∀ (m k : Nat) (T : Nat → Option (Nat × Nat)) (J : Nat → Nat → Int) (P : Nat → Nat → Option Nat) (L : Nat → Nat → Int64) (z w : Nat) (o5 o6 : Option Value), 6 * (k + m) = 3072 → to_I en X M N O z0 w0 T0 J0 k T J P L z w → m_wp en 40 mLa_law 23 [some (.ref S), some (.ref X), some (.ref M), some (.ref O), some (.int (m_i (6 * (k : Int)))), o5, o6] [] (T, m_I J, P, L, z, w) Q := by
  intro m
  induction m with
  | zero =>
    intro k T J P L z w o5 o6 hk h
    have hTS : T S = some (20, n) := (h.lo S hSX).1.trans hS
    refine r_il eLa_law_23 rfl ?_
    refine r_aln eLa_law_25 rfl ?_
    refine r_alen eLa_law_26 hTS (by decide) ?_
    refine r_bip eLa_law_27 (by decide) ?_
    refine r_sub eLa_law_29 ?_
    refine r_cgt (tgt := 1487) eLa_law_30 rfl ⟨by omega, by omega⟩ ⟨by omega, by omega⟩ (fun c0 => ?_) (fun c0 => by omega)
    refine r_con eLa_law_1487 ?_
    refine r_zret eLa_law_1488 rfl (Or.inr rfl) ?_
    exact hq k T J P L z w (by omega) h
  | succ m ih =>
    intro k T J P L z w o5 o6 hk h
    have hTS : T S = some (20, n) := (h.lo S hSX).1.trans hS
    have hJS : J S = J0 S := (h.lo S hSX).2
    refine r_il eLa_law_23 rfl ?_
    refine r_aln eLa_law_25 rfl ?_
    refine r_alen eLa_law_26 hTS (by decide) ?_
    refine r_bip eLa_law_27 (by decide) ?_
    refine r_sub eLa_law_29 ?_
    refine r_cgt (tgt := 1487) eLa_law_30 rfl ⟨by omega, by omega⟩ ⟨by omega, by omega⟩ (fun c0 => ?_) (fun c0 => ?_)
    · refine r_con eLa_law_1487 ?_
      refine r_zret eLa_law_1488 rfl (Or.inr rfl) ?_
      exact hq k T J P L z w (by omega) h
    have hend : ∀ (T : Nat → Option (Nat × Nat)) (J : Nat → Nat → Int) (P : Nat → Nat → Option Nat) (L : Nat → Nat → Int64) (z w : Nat) (o5 o6 : Option Value), to_I en X M N O z0 w0 T0 J0 (k + 1) T J P L z w → m_wp en 40 mLa_law 1481 [some (.ref S), some (.ref X), some (.ref M), some (.ref O), some (.int (m_i (6 * (k : Int)))), o5, o6] [] (T, m_I J, P, L, z, w) Q := fun T J P L z w o5 o6 h => by
      have hi := ih (k + 1) T J P L z w o5 o6 (by omega) h
      rw [show 6 * ((k + 1 : Nat) : Int) = 6 * (k : Int) + 6 by omega] at hi
      refine r_inc (ls' := [some (.ref S), some (.ref X), some (.ref M), some (.ref O), some (.int (m_i (6 * (k : Int) + 6))), o5, o6]) eLa_law_1481 rfl rfl ?_
      refine r_go (tgt := 23) eLa_law_1484 rfl ?_
      exact hi
    refine r_aln eLa_law_33 rfl ?_
    refine r_il eLa_law_34 rfl ?_
    refine r_ialde (x := J0 S (6 * (k : Int)).toNat) eLa_law_36 hTS (by omega) (by omega) (by omega) (by rw [hJS]) ?_
    refine r_bip eLa_law_37 (by decide) ?_
    refine r_and eLa_law_39 ?_
    rcases (show m_and (J0 S (6 * (k : Int)).toNat) 63 = 0 ∨ m_and (J0 S (6 * (k : Int)).toNat) 63 = 1 ∨ m_and (J0 S (6 * (k : Int)).toNat) 63 = 2 ∨ m_and (J0 S (6 * (k : Int)).toNat) 63 = 3 ∨ m_and (J0 S (6 * (k : Int)).toNat) 63 = 4 ∨ m_and (J0 S (6 * (k : Int)).toNat) 63 = 5 ∨ m_and (J0 S (6 * (k : Int)).toNat) 63 = 6 ∨ m_and (J0 S (6 * (k : Int)).toNat) 63 = 7 ∨ m_and (J0 S (6 * (k : Int)).toNat) 63 = 8 ∨ m_and (J0 S (6 * (k : Int)).toNat) 63 = 9 ∨ m_and (J0 S (6 * (k : Int)).toNat) 63 = 10 ∨ m_and (J0 S (6 * (k : Int)).toNat) 63 = 11 ∨ m_and (J0 S (6 * (k : Int)).toNat) 63 = 12 ∨ m_and (J0 S (6 * (k : Int)).toNat) 63 = 13 ∨ m_and (J0 S (6 * (k : Int)).toNat) 63 = 14 ∨ m_and (J0 S (6 * (k : Int)).toNat) 63 = 15 ∨ m_and (J0 S (6 * (k : Int)).toNat) 63 = 16 ∨ m_and (J0 S (6 * (k : Int)).toNat) 63 = 17 ∨ m_and (J0 S (6 * (k : Int)).toNat) 63 = 18 ∨ m_and (J0 S (6 * (k : Int)).toNat) 63 = 19 ∨ m_and (J0 S (6 * (k : Int)).toNat) 63 = 20 ∨ m_and (J0 S (6 * (k : Int)).toNat) 63 = 21 ∨ m_and (J0 S (6 * (k : Int)).toNat) 63 = 22 ∨ m_and (J0 S (6 * (k : Int)).toNat) 63 = 23 ∨ m_and (J0 S (6 * (k : Int)).toNat) 63 = 24 ∨ m_and (J0 S (6 * (k : Int)).toNat) 63 = 25 ∨ m_and (J0 S (6 * (k : Int)).toNat) 63 = 26 ∨ m_and (J0 S (6 * (k : Int)).toNat) 63 = 27 ∨ m_and (J0 S (6 * (k : Int)).toNat) 63 = 28 ∨ m_and (J0 S (6 * (k : Int)).toNat) 63 = 29 ∨ m_and (J0 S (6 * (k : Int)).toNat) 63 = 30 ∨ m_and (J0 S (6 * (k : Int)).toNat) 63 = 31 ∨ m_and (J0 S (6 * (k : Int)).toNat) 63 = 32 ∨ m_and (J0 S (6 * (k : Int)).toNat) 63 = 33 ∨ m_and (J0 S (6 * (k : Int)).toNat) 63 = 34 ∨ m_and (J0 S (6 * (k : Int)).toNat) 63 = 35 ∨ m_and (J0 S (6 * (k : Int)).toNat) 63 = 36 ∨ m_and (J0 S (6 * (k : Int)).toNat) 63 = 37 ∨ m_and (J0 S (6 * (k : Int)).toNat) 63 = 38 ∨ m_and (J0 S (6 * (k : Int)).toNat) 63 = 39 ∨ m_and (J0 S (6 * (k : Int)).toNat) 63 = 40 ∨ m_and (J0 S (6 * (k : Int)).toNat) 63 = 41 ∨ m_and (J0 S (6 * (k : Int)).toNat) 63 = 42 ∨ m_and (J0 S (6 * (k : Int)).toNat) 63 = 43 ∨ m_and (J0 S (6 * (k : Int)).toNat) 63 = 44 ∨ m_and (J0 S (6 * (k : Int)).toNat) 63 = 45 ∨ (m_and (J0 S (6 * (k : Int)).toNat) 63 < 0 ∨ 45 < m_and (J0 S (6 * (k : Int)).toNat) 63) by omega) with c1 | c1 | c1 | c1 | c1 | c1 | c1 | c1 | c1 | c1 | c1 | c1 | c1 | c1 | c1 | c1 | c1 | c1 | c1 | c1 | c1 | c1 | c1 | c1 | c1 | c1 | c1 | c1 | c1 | c1 | c1 | c1 | c1 | c1 | c1 | c1 | c1 | c1 | c1 | c1 | c1 | c1 | c1 | c1 | c1 | c1 | c1
    · -- 0
      refine r_tcase (v := 0) (tgt := 240) eLa_law_40 c1 ⟨by decide, by decide⟩ ⟨by decide, by decide⟩ rfl rfl ?_
      refine r_aln eLa_law_240 rfl ?_
      refine r_aln eLa_law_241 rfl ?_
      refine r_il eLa_law_242 rfl ?_
      refine r_con eLa_law_244 ?_
      refine r_add eLa_law_245 ?_
      refine r_ialde (x := (J0 S (6 * (k : Int) + 1).toNat)) eLa_law_246 hTS (by omega) (by omega) (by omega) (by rw [hJS]) ?_
      refine r_aln eLa_law_247 rfl ?_
      refine r_il eLa_law_248 rfl ?_
      refine r_con eLa_law_250 ?_
      refine r_add eLa_law_251 ?_
      refine r_ialde (x := (J0 S (6 * (k : Int) + 2).toNat)) eLa_law_252 hTS (by omega) (by omega) (by omega) (by rw [hJS]) ?_
      refine r_aln eLa_law_253 rfl ?_
      refine r_il eLa_law_254 rfl ?_
      refine r_con eLa_law_256 ?_
      refine r_add eLa_law_257 ?_
      refine r_ialde (x := (J0 S (6 * (k : Int) + 3).toNat)) eLa_law_258 hTS (by omega) (by omega) (by omega) (by rw [hJS]) ?_
      refine r_aln eLa_law_259 rfl ?_
      refine r_il eLa_law_260 rfl ?_
      refine r_con eLa_law_262 ?_
      refine r_add eLa_law_263 ?_
      refine r_ialde (x := (J0 S (6 * (k : Int) + 4).toNat)) eLa_law_264 hTS (by omega) (by omega) (by omega) (by rw [hJS]) ?_
      refine r_aln eLa_law_265 rfl ?_
      refine r_il eLa_law_266 rfl ?_
      refine r_con eLa_law_268 ?_
      refine r_add eLa_law_269 ?_
      refine r_ialde (x := (J0 S (6 * (k : Int) + 5).toNat)) eLa_law_270 hTS (by omega) (by omega) (by omega) (by rw [hJS]) ?_
      refine r_vir eLa_law_271 rfl rfl rfl (cl_t h.csh (i := 0) rfl) rfl rfl ?_
      refine m_call_mono _ _ _ _ _ _ (fun v s q => ?_) (t_feed h)
      obtain ⟨r, T', J', P', L', z', w', rfl, rfl, hfr, hc⟩ := q
      obtain ⟨v2, s2, ⟨J3, -, -, hI3⟩, -⟩ := m_call_one _ _ _ _ _ hc
      have hM' := hI3.sh
      have hTS' : T' S = some (20, n) := (hfr S hSX).1.trans hS
      have hJS' : J' S = J0 S := (hfr S hSX).2
      show m_wp en 40 mLa_law 274 [some (.ref S), some (.ref X), some (.ref M), some (.ref O), some (.int (m_i (6 * (k : Int)))), o5, o6] [(.int (m_i r))] (T', m_I J', P', L', z', w') Q
      refine r_aln eLa_law_274 rfl ?_
      refine r_aln eLa_law_275 rfl ?_
      refine r_il eLa_law_276 rfl ?_
      refine r_con eLa_law_278 ?_
      refine r_add eLa_law_279 ?_
      refine r_ialde (x := (J0 S (6 * (k : Int) + 1).toNat)) eLa_law_280 hTS' (by omega) (by omega) (by omega) (by rw [hJS']) ?_
      refine r_aln eLa_law_281 rfl ?_
      refine r_il eLa_law_282 rfl ?_
      refine r_con eLa_law_284 ?_
      refine r_add eLa_law_285 ?_
      refine r_ialde (x := (J0 S (6 * (k : Int) + 2).toNat)) eLa_law_286 hTS' (by omega) (by omega) (by omega) (by rw [hJS']) ?_
      refine r_aln eLa_law_287 rfl ?_
      refine r_il eLa_law_288 rfl ?_
      refine r_con eLa_law_290 ?_
      refine r_add eLa_law_291 ?_
      refine r_ialde (x := (J0 S (6 * (k : Int) + 3).toNat)) eLa_law_292 hTS' (by omega) (by omega) (by omega) (by rw [hJS']) ?_
      refine r_aln eLa_law_293 rfl ?_
      refine r_il eLa_law_294 rfl ?_
      refine r_con eLa_law_296 ?_
      refine r_add eLa_law_297 ?_
      refine r_ialde (x := (J0 S (6 * (k : Int) + 4).toNat)) eLa_law_298 hTS' (by omega) (by omega) (by omega) (by rw [hJS']) ?_
      refine r_aln eLa_law_299 rfl ?_
      refine r_il eLa_law_300 rfl ?_
      refine r_con eLa_law_302 ?_
      refine r_add eLa_law_303 ?_
      refine r_ialde (x := (J0 S (6 * (k : Int) + 5).toNat)) eLa_law_304 hTS' (by omega) (by omega) (by omega) (by rw [hJS']) ?_
      refine r_vir eLa_law_305 rfl rfl rfl hM'.2.1 rfl rfl ?_
      refine m_call_mono _ _ _ _ _ _ (fun v s q => ?_) hc
      obtain ⟨J2, rfl, rfl, hI⟩ := q
      show m_wp en 40 mLa_law 308 [some (.ref S), some (.ref X), some (.ref M), some (.ref O), some (.int (m_i (6 * (k : Int)))), o5, o6] [(.int (m_i r)), (.int (m_i r))] (T', m_I J2, P', L', z', w') Q
      refine r_ceqs (tgt := 1481) eLa_law_308 rfl ?_
      exact hend T' J2 P' L' z' w' o5 o6 hI
    · -- 1
      refine r_tcase (v := 1) (tgt := 313) eLa_law_40 c1 ⟨by decide, by decide⟩ ⟨by decide, by decide⟩ rfl rfl ?_
      refine r_aln eLa_law_313 rfl ?_
      refine r_aln eLa_law_314 rfl ?_
      refine r_il eLa_law_315 rfl ?_
      refine r_con eLa_law_317 ?_
      refine r_add eLa_law_318 ?_
      refine r_ialde (x := (J0 S (6 * (k : Int) + 1).toNat)) eLa_law_319 hTS (by omega) (by omega) (by omega) (by rw [hJS]) ?_
      refine r_vir eLa_law_320 rfl rfl rfl (cl_t h.csh (i := 0) rfl) rfl rfl ?_
      refine m_call_mono _ _ _ _ _ _ (fun v s q => ?_) (t_text h (hSi _))
      obtain ⟨r, T', J', P', L', z', w', rfl, rfl, hfr, hc⟩ := q
      obtain ⟨v2, s2, ⟨J3, -, -, hI3⟩, -⟩ := m_call_one _ _ _ _ _ hc
      have hM' := hI3.sh
      have hTS' : T' S = some (20, n) := (hfr S hSX).1.trans hS
      have hJS' : J' S = J0 S := (hfr S hSX).2
      show m_wp en 40 mLa_law 323 [some (.ref S), some (.ref X), some (.ref M), some (.ref O), some (.int (m_i (6 * (k : Int)))), o5, o6] [(.int (m_i r))] (T', m_I J', P', L', z', w') Q
      refine r_aln eLa_law_323 rfl ?_
      refine r_aln eLa_law_324 rfl ?_
      refine r_il eLa_law_325 rfl ?_
      refine r_con eLa_law_327 ?_
      refine r_add eLa_law_328 ?_
      refine r_ialde (x := (J0 S (6 * (k : Int) + 1).toNat)) eLa_law_329 hTS' (by omega) (by omega) (by omega) (by rw [hJS']) ?_
      refine r_vir eLa_law_330 rfl rfl rfl hM'.2.1 rfl rfl ?_
      refine m_call_mono _ _ _ _ _ _ (fun v s q => ?_) hc
      obtain ⟨J2, rfl, rfl, hI⟩ := q
      show m_wp en 40 mLa_law 333 [some (.ref S), some (.ref X), some (.ref M), some (.ref O), some (.int (m_i (6 * (k : Int)))), o5, o6] [(.int (m_i r)), (.int (m_i r))] (T', m_I J2, P', L', z', w') Q
      refine r_ceqs (tgt := 1481) eLa_law_333 rfl ?_
      exact hend T' J2 P' L' z' w' o5 o6 hI
    · -- 2
      refine r_tcase (v := 2) (tgt := 338) eLa_law_40 c1 ⟨by decide, by decide⟩ ⟨by decide, by decide⟩ rfl rfl ?_
      refine r_aln eLa_law_338 rfl ?_
      refine r_aln eLa_law_339 rfl ?_
      refine r_il eLa_law_340 rfl ?_
      refine r_con eLa_law_342 ?_
      refine r_add eLa_law_343 ?_
      refine r_ialde (x := (J0 S (6 * (k : Int) + 1).toNat)) eLa_law_344 hTS (by omega) (by omega) (by omega) (by rw [hJS]) ?_
      refine r_vir eLa_law_345 rfl rfl rfl (cl_t h.csh (i := 0) rfl) rfl rfl ?_
      refine m_call_mono _ _ _ _ _ _ (fun v s q => ?_) (t_fault h (hSi _))
      obtain ⟨r, T', J', P', L', z', w', rfl, rfl, hfr, hc⟩ := q
      obtain ⟨v2, s2, ⟨J3, -, -, hI3⟩, -⟩ := m_call_one _ _ _ _ _ hc
      have hM' := hI3.sh
      have hTS' : T' S = some (20, n) := (hfr S hSX).1.trans hS
      have hJS' : J' S = J0 S := (hfr S hSX).2
      show m_wp en 40 mLa_law 348 [some (.ref S), some (.ref X), some (.ref M), some (.ref O), some (.int (m_i (6 * (k : Int)))), o5, o6] [(.int (m_i r))] (T', m_I J', P', L', z', w') Q
      refine r_aln eLa_law_348 rfl ?_
      refine r_aln eLa_law_349 rfl ?_
      refine r_il eLa_law_350 rfl ?_
      refine r_con eLa_law_352 ?_
      refine r_add eLa_law_353 ?_
      refine r_ialde (x := (J0 S (6 * (k : Int) + 1).toNat)) eLa_law_354 hTS' (by omega) (by omega) (by omega) (by rw [hJS']) ?_
      refine r_vir eLa_law_355 rfl rfl rfl hM'.2.1 rfl rfl ?_
      refine m_call_mono _ _ _ _ _ _ (fun v s q => ?_) hc
      obtain ⟨J2, rfl, rfl, hI⟩ := q
      show m_wp en 40 mLa_law 358 [some (.ref S), some (.ref X), some (.ref M), some (.ref O), some (.int (m_i (6 * (k : Int)))), o5, o6] [(.int (m_i r)), (.int (m_i r))] (T', m_I J2, P', L', z', w') Q
      refine r_ceqs (tgt := 1481) eLa_law_358 rfl ?_
      exact hend T' J2 P' L' z' w' o5 o6 hI
    · -- 3
      refine r_tcase (v := 3) (tgt := 363) eLa_law_40 c1 ⟨by decide, by decide⟩ ⟨by decide, by decide⟩ rfl rfl ?_
      refine r_aln eLa_law_363 rfl ?_
      refine r_aln eLa_law_364 rfl ?_
      refine r_il eLa_law_365 rfl ?_
      refine r_con eLa_law_367 ?_
      refine r_add eLa_law_368 ?_
      refine r_ialde (x := (J0 S (6 * (k : Int) + 1).toNat)) eLa_law_369 hTS (by omega) (by omega) (by omega) (by rw [hJS]) ?_
      refine r_vir eLa_law_370 rfl rfl rfl (cl_t h.csh (i := 0) rfl) rfl rfl ?_
      refine m_call_mono _ _ _ _ _ _ (fun v s q => ?_) (t_named h (hSi _))
      obtain ⟨r, T', J', P', L', z', w', rfl, rfl, hfr, hc⟩ := q
      obtain ⟨v2, s2, ⟨J3, -, -, hI3⟩, -⟩ := m_call_one _ _ _ _ _ hc
      have hM' := hI3.sh
      have hTS' : T' S = some (20, n) := (hfr S hSX).1.trans hS
      have hJS' : J' S = J0 S := (hfr S hSX).2
      show m_wp en 40 mLa_law 373 [some (.ref S), some (.ref X), some (.ref M), some (.ref O), some (.int (m_i (6 * (k : Int)))), o5, o6] [(.int (m_i r))] (T', m_I J', P', L', z', w') Q
      refine r_aln eLa_law_373 rfl ?_
      refine r_aln eLa_law_374 rfl ?_
      refine r_il eLa_law_375 rfl ?_
      refine r_con eLa_law_377 ?_
      refine r_add eLa_law_378 ?_
      refine r_ialde (x := (J0 S (6 * (k : Int) + 1).toNat)) eLa_law_379 hTS' (by omega) (by omega) (by omega) (by rw [hJS']) ?_
      refine r_vir eLa_law_380 rfl rfl rfl hM'.2.1 rfl rfl ?_
      refine m_call_mono _ _ _ _ _ _ (fun v s q => ?_) hc
      obtain ⟨J2, rfl, rfl, hI⟩ := q
      show m_wp en 40 mLa_law 383 [some (.ref S), some (.ref X), some (.ref M), some (.ref O), some (.int (m_i (6 * (k : Int)))), o5, o6] [(.int (m_i r)), (.int (m_i r))] (T', m_I J2, P', L', z', w') Q
      refine r_ceqs (tgt := 1481) eLa_law_383 rfl ?_
      exact hend T' J2 P' L' z' w' o5 o6 hI
    · -- 4
      refine r_tcase (v := 4) (tgt := 388) eLa_law_40 c1 ⟨by decide, by decide⟩ ⟨by decide, by decide⟩ rfl rfl ?_
      refine r_aln eLa_law_388 rfl ?_
      refine r_aln eLa_law_389 rfl ?_
      refine r_il eLa_law_390 rfl ?_
      refine r_con eLa_law_392 ?_
      refine r_add eLa_law_393 ?_
      refine r_ialde (x := (J0 S (6 * (k : Int) + 1).toNat)) eLa_law_394 hTS (by omega) (by omega) (by omega) (by rw [hJS]) ?_
      refine r_aln eLa_law_395 rfl ?_
      refine r_il eLa_law_396 rfl ?_
      refine r_con eLa_law_398 ?_
      refine r_add eLa_law_399 ?_
      refine r_ialde (x := (J0 S (6 * (k : Int) + 2).toNat)) eLa_law_400 hTS (by omega) (by omega) (by omega) (by rw [hJS]) ?_
      refine r_vir eLa_law_401 rfl rfl rfl (cl_t h.csh (i := 0) rfl) rfl rfl ?_
      refine m_call_mono _ _ _ _ _ _ (fun v s q => ?_) (t_step h (hSi _) (hSi _))
      obtain ⟨r, T', J', P', L', z', w', rfl, rfl, hfr, hc⟩ := q
      obtain ⟨v2, s2, ⟨J3, -, -, hI3⟩, -⟩ := m_call_one _ _ _ _ _ hc
      have hM' := hI3.sh
      have hTS' : T' S = some (20, n) := (hfr S hSX).1.trans hS
      have hJS' : J' S = J0 S := (hfr S hSX).2
      show m_wp en 40 mLa_law 404 [some (.ref S), some (.ref X), some (.ref M), some (.ref O), some (.int (m_i (6 * (k : Int)))), o5, o6] [(.int (m_i r))] (T', m_I J', P', L', z', w') Q
      refine r_aln eLa_law_404 rfl ?_
      refine r_aln eLa_law_405 rfl ?_
      refine r_il eLa_law_406 rfl ?_
      refine r_con eLa_law_408 ?_
      refine r_add eLa_law_409 ?_
      refine r_ialde (x := (J0 S (6 * (k : Int) + 1).toNat)) eLa_law_410 hTS' (by omega) (by omega) (by omega) (by rw [hJS']) ?_
      refine r_aln eLa_law_411 rfl ?_
      refine r_il eLa_law_412 rfl ?_
      refine r_con eLa_law_414 ?_
      refine r_add eLa_law_415 ?_
      refine r_ialde (x := (J0 S (6 * (k : Int) + 2).toNat)) eLa_law_416 hTS' (by omega) (by omega) (by omega) (by rw [hJS']) ?_
      refine r_vir eLa_law_417 rfl rfl rfl hM'.2.1 rfl rfl ?_
      refine m_call_mono _ _ _ _ _ _ (fun v s q => ?_) hc
      obtain ⟨J2, rfl, rfl, hI⟩ := q
      show m_wp en 40 mLa_law 420 [some (.ref S), some (.ref X), some (.ref M), some (.ref O), some (.int (m_i (6 * (k : Int)))), o5, o6] [(.int (m_i r)), (.int (m_i r))] (T', m_I J2, P', L', z', w') Q
      refine r_ceqs (tgt := 1481) eLa_law_420 rfl ?_
      exact hend T' J2 P' L' z' w' o5 o6 hI
    · -- 5
      refine r_tcase (v := 5) (tgt := 425) eLa_law_40 c1 ⟨by decide, by decide⟩ ⟨by decide, by decide⟩ rfl rfl ?_
      refine r_aln eLa_law_425 rfl ?_
      refine r_aln eLa_law_426 rfl ?_
      refine r_il eLa_law_427 rfl ?_
      refine r_con eLa_law_429 ?_
      refine r_add eLa_law_430 ?_
      refine r_ialde (x := (J0 S (6 * (k : Int) + 1).toNat)) eLa_law_431 hTS (by omega) (by omega) (by omega) (by rw [hJS]) ?_
      refine r_vir eLa_law_432 rfl rfl rfl (cl_t h.csh (i := 0) rfl) rfl rfl ?_
      refine m_call_mono _ _ _ _ _ _ (fun v s q => ?_) (t_flow h (hSi _))
      obtain ⟨r, T', J', P', L', z', w', rfl, rfl, hfr, hc⟩ := q
      obtain ⟨v2, s2, ⟨J3, -, -, hI3⟩, -⟩ := m_call_one _ _ _ _ _ hc
      have hM' := hI3.sh
      have hTS' : T' S = some (20, n) := (hfr S hSX).1.trans hS
      have hJS' : J' S = J0 S := (hfr S hSX).2
      show m_wp en 40 mLa_law 435 [some (.ref S), some (.ref X), some (.ref M), some (.ref O), some (.int (m_i (6 * (k : Int)))), o5, o6] [(.int (m_i r))] (T', m_I J', P', L', z', w') Q
      refine r_aln eLa_law_435 rfl ?_
      refine r_aln eLa_law_436 rfl ?_
      refine r_il eLa_law_437 rfl ?_
      refine r_con eLa_law_439 ?_
      refine r_add eLa_law_440 ?_
      refine r_ialde (x := (J0 S (6 * (k : Int) + 1).toNat)) eLa_law_441 hTS' (by omega) (by omega) (by omega) (by rw [hJS']) ?_
      refine r_vir eLa_law_442 rfl rfl rfl hM'.2.1 rfl rfl ?_
      refine m_call_mono _ _ _ _ _ _ (fun v s q => ?_) hc
      obtain ⟨J2, rfl, rfl, hI⟩ := q
      show m_wp en 40 mLa_law 445 [some (.ref S), some (.ref X), some (.ref M), some (.ref O), some (.int (m_i (6 * (k : Int)))), o5, o6] [(.int (m_i r)), (.int (m_i r))] (T', m_I J2, P', L', z', w') Q
      refine r_ceqs (tgt := 1481) eLa_law_445 rfl ?_
      exact hend T' J2 P' L' z' w' o5 o6 hI
    · -- 6
      refine r_tcase (v := 6) (tgt := 450) eLa_law_40 c1 ⟨by decide, by decide⟩ ⟨by decide, by decide⟩ rfl rfl ?_
      refine r_aln eLa_law_450 rfl ?_
      refine r_aln eLa_law_451 rfl ?_
      refine r_il eLa_law_452 rfl ?_
      refine r_con eLa_law_454 ?_
      refine r_add eLa_law_455 ?_
      refine r_ialde (x := (J0 S (6 * (k : Int) + 1).toNat)) eLa_law_456 hTS (by omega) (by omega) (by omega) (by rw [hJS]) ?_
      refine r_aln eLa_law_457 rfl ?_
      refine r_sta eLa_law_458 rfl rfl (by decide) rfl ?_
      refine m_call_mono _ _ _ _ _ _ (fun v s q => ?_) (t_now h (hSi _))
      obtain ⟨kk, y, T', J', P', L', z', w', hkk, hy, rfl, rfl, hL, hfr, ⟨hM', hO'⟩, hc⟩ := q
      have hTS' : T' S = some (20, n) := (hfr S hSX).1.trans hS
      have hJS' : J' S = J0 S := (hfr S hSX).2
      show m_wp en 40 mLa_law 461 [some (.ref S), some (.ref X), some (.ref M), some (.ref O), some (.int (m_i (6 * (k : Int)))), o5, o6] [(.int (m_i kk))] (T', m_I J', P', L', z', w') Q
      refine r_is (ls' := [some (.ref S), some (.ref X), some (.ref M), some (.ref O), some (.int (m_i (6 * (k : Int)))), some (.int (m_i kk)), o6]) eLa_law_461 (Nat.le_of_ble_eq_true rfl) rfl ?_
      refine r_aln eLa_law_463 rfl ?_
      refine r_aln eLa_law_464 rfl ?_
      refine r_il eLa_law_465 rfl ?_
      refine r_con eLa_law_467 ?_
      refine r_add eLa_law_468 ?_
      refine r_ialde (x := (J0 S (6 * (k : Int) + 1).toNat)) eLa_law_469 hTS' (by omega) (by omega) (by omega) (by rw [hJS']) ?_
      refine r_vir eLa_law_470 rfl rfl rfl hM'.2.1 rfl rfl ?_
      refine m_call_mono _ _ _ _ _ _ (fun v s q => ?_) hc
      obtain ⟨r, J2, rfl, rfl, hr, h0, hI⟩ := q
      show m_wp en 40 mLa_law 473 [some (.ref S), some (.ref X), some (.ref M), some (.ref O), some (.int (m_i (6 * (k : Int)))), some (.int (m_i kk)), o6] [(.int (m_i r))] (T', m_I J2, P', L', z', w') Q
      refine r_is (ls' := [some (.ref S), some (.ref X), some (.ref M), some (.ref O), some (.int (m_i (6 * (k : Int)))), some (.int (m_i kk)), some (.int (m_i r))]) eLa_law_473 (Nat.le_of_ble_eq_true rfl) rfl ?_
      refine r_aln eLa_law_475 rfl ?_
      refine r_vir eLa_law_476 rfl rfl rfl hM'.2.1 rfl rfl ?_
      refine c_Md_thrown (d := 39) hM' ?_
      show m_wp en 40 mLa_law 479 [some (.ref S), some (.ref X), some (.ref M), some (.ref O), some (.int (m_i (6 * (k : Int)))), some (.int (m_i kk)), some (.int (m_i r))] [(.int (m_i (J2 M 0)))] (T', m_I J2, P', L', z', w') Q
      rw [h0]
      refine r_il eLa_law_479 rfl ?_
      refine r_ceqs (tgt := 486) eLa_law_481 rfl ?_
      have hgo : m_wp en 40 mLa_law 503 [some (.ref S), some (.ref X), some (.ref M), some (.ref O), some (.int (m_i (6 * (k : Int)))), some (.int (m_i kk)), some (.int (m_i r))] [] (T', m_I J2, P', L', z', w') Q := by
        refine r_go (tgt := 1481) eLa_law_503 rfl ?_
        exact hend T' J2 P' L' z' w' _ _ hI
      refine r_il eLa_law_486 rfl ?_
      refine r_zne (tgt := 503) eLa_law_488 rfl ⟨by omega, by omega⟩ (fun c2 => hgo) (fun c2 => ?_)
      have ek : kk = 0 := by omega
      have er := hr ek
      refine r_aln eLa_law_491 rfl ?_
      refine r_con eLa_law_492 ?_
      refine r_lald (v := (m_i y).toInt64) eLa_law_493 hO' (by decide) (by omega) (by omega) (hL ek) ?_
      refine r_il eLa_law_494 rfl ?_
      refine r_i2l eLa_law_496 ?_
      rw [er]
      refine r_lceq eLa_law_497 ?_
      refine r_zeq (tgt := 503) eLa_law_498 rfl ⟨by omega, by omega⟩ (fun c3 => ?_) (fun c3 => absurd rfl c3)
      rw [← er]
      exact hgo
    · -- 7
      refine r_tcase (v := 7) (tgt := 506) eLa_law_40 c1 ⟨by decide, by decide⟩ ⟨by decide, by decide⟩ rfl rfl ?_
      refine r_aln eLa_law_506 rfl ?_
      refine r_vir eLa_law_507 rfl rfl rfl (cl_t h.csh (i := 0) rfl) rfl rfl ?_
      refine m_call_mono _ _ _ _ _ _ (fun v s q => ?_) (t_grab h)
      obtain ⟨r, T', J', P', L', z', w', rfl, rfl, hfr, hc⟩ := q
      obtain ⟨v2, s2, ⟨J3, -, -, hI3⟩, -⟩ := m_call_one _ _ _ _ _ hc
      have hM' := hI3.sh
      show m_wp en 40 mLa_law 510 [some (.ref S), some (.ref X), some (.ref M), some (.ref O), some (.int (m_i (6 * (k : Int)))), o5, o6] [(.int (m_i r))] (T', m_I J', P', L', z', w') Q
      refine r_aln eLa_law_510 rfl ?_
      refine r_vir eLa_law_511 rfl rfl rfl hM'.2.1 rfl rfl ?_
      refine m_call_mono _ _ _ _ _ _ (fun v s q => ?_) hc
      obtain ⟨J2, rfl, rfl, hI⟩ := q
      show m_wp en 40 mLa_law 514 [some (.ref S), some (.ref X), some (.ref M), some (.ref O), some (.int (m_i (6 * (k : Int)))), o5, o6] [(.int (m_i r)), (.int (m_i r))] (T', m_I J2, P', L', z', w') Q
      refine r_ceqs (tgt := 1481) eLa_law_514 rfl ?_
      exact hend T' J2 P' L' z' w' o5 o6 hI
    · -- 8
      refine r_tcase (v := 8) (tgt := 519) eLa_law_40 c1 ⟨by decide, by decide⟩ ⟨by decide, by decide⟩ rfl rfl ?_
      refine r_aln eLa_law_519 rfl ?_
      refine r_vir eLa_law_520 rfl rfl rfl (cl_t h.csh (i := 0) rfl) rfl rfl ?_
      refine m_call_mono _ _ _ _ _ _ (fun v s q => ?_) (t_drop h)
      obtain ⟨r, T', J', P', L', z', w', rfl, rfl, hfr, hc⟩ := q
      obtain ⟨v2, s2, ⟨J3, -, -, hI3⟩, -⟩ := m_call_one _ _ _ _ _ hc
      have hM' := hI3.sh
      show m_wp en 40 mLa_law 523 [some (.ref S), some (.ref X), some (.ref M), some (.ref O), some (.int (m_i (6 * (k : Int)))), o5, o6] [(.int (m_i r))] (T', m_I J', P', L', z', w') Q
      refine r_aln eLa_law_523 rfl ?_
      refine r_vir eLa_law_524 rfl rfl rfl hM'.2.1 rfl rfl ?_
      refine m_call_mono _ _ _ _ _ _ (fun v s q => ?_) hc
      obtain ⟨J2, rfl, rfl, hI⟩ := q
      show m_wp en 40 mLa_law 527 [some (.ref S), some (.ref X), some (.ref M), some (.ref O), some (.int (m_i (6 * (k : Int)))), o5, o6] [(.int (m_i r)), (.int (m_i r))] (T', m_I J2, P', L', z', w') Q
      refine r_ceqs (tgt := 1481) eLa_law_527 rfl ?_
      exact hend T' J2 P' L' z' w' o5 o6 hI
    · -- 9
      refine r_tcase (v := 9) (tgt := 532) eLa_law_40 c1 ⟨by decide, by decide⟩ ⟨by decide, by decide⟩ rfl rfl ?_
      refine r_aln eLa_law_532 rfl ?_
      refine r_aln eLa_law_533 rfl ?_
      refine r_il eLa_law_534 rfl ?_
      refine r_con eLa_law_536 ?_
      refine r_add eLa_law_537 ?_
      refine r_ialde (x := (J0 S (6 * (k : Int) + 1).toNat)) eLa_law_538 hTS (by omega) (by omega) (by omega) (by rw [hJS]) ?_
      refine r_vir eLa_law_539 rfl rfl rfl (cl_t h.csh (i := 0) rfl) rfl rfl ?_
      refine m_call_mono _ _ _ _ _ _ (fun v s q => ?_) (t_pile h (hSi _))
      obtain ⟨r, T', J', P', L', z', w', rfl, rfl, hfr, hc⟩ := q
      obtain ⟨v2, s2, ⟨J3, -, -, hI3⟩, -⟩ := m_call_one _ _ _ _ _ hc
      have hM' := hI3.sh
      have hTS' : T' S = some (20, n) := (hfr S hSX).1.trans hS
      have hJS' : J' S = J0 S := (hfr S hSX).2
      show m_wp en 40 mLa_law 542 [some (.ref S), some (.ref X), some (.ref M), some (.ref O), some (.int (m_i (6 * (k : Int)))), o5, o6] [(.int (m_i r))] (T', m_I J', P', L', z', w') Q
      refine r_aln eLa_law_542 rfl ?_
      refine r_aln eLa_law_543 rfl ?_
      refine r_il eLa_law_544 rfl ?_
      refine r_con eLa_law_546 ?_
      refine r_add eLa_law_547 ?_
      refine r_ialde (x := (J0 S (6 * (k : Int) + 1).toNat)) eLa_law_548 hTS' (by omega) (by omega) (by omega) (by rw [hJS']) ?_
      refine r_vir eLa_law_549 rfl rfl rfl hM'.2.1 rfl rfl ?_
      refine m_call_mono _ _ _ _ _ _ (fun v s q => ?_) hc
      obtain ⟨J2, rfl, rfl, hI⟩ := q
      show m_wp en 40 mLa_law 552 [some (.ref S), some (.ref X), some (.ref M), some (.ref O), some (.int (m_i (6 * (k : Int)))), o5, o6] [(.int (m_i r)), (.int (m_i r))] (T', m_I J2, P', L', z', w') Q
      refine r_ceqs (tgt := 1481) eLa_law_552 rfl ?_
      exact hend T' J2 P' L' z' w' o5 o6 hI
    · -- 10
      refine r_tcase (v := 10) (tgt := 557) eLa_law_40 c1 ⟨by decide, by decide⟩ ⟨by decide, by decide⟩ rfl rfl ?_
      refine r_aln eLa_law_557 rfl ?_
      refine r_aln eLa_law_558 rfl ?_
      refine r_il eLa_law_559 rfl ?_
      refine r_con eLa_law_561 ?_
      refine r_add eLa_law_562 ?_
      refine r_ialde (x := (J0 S (6 * (k : Int) + 1).toNat)) eLa_law_563 hTS (by omega) (by omega) (by omega) (by rw [hJS]) ?_
      refine r_vir eLa_law_564 rfl rfl rfl (cl_t h.csh (i := 0) rfl) rfl rfl ?_
      refine m_call_mono _ _ _ _ _ _ (fun v s q => ?_) (t_free h (hSi _))
      obtain ⟨r, T', J', P', L', z', w', rfl, rfl, hfr, hc⟩ := q
      obtain ⟨v2, s2, ⟨J3, -, -, hI3⟩, -⟩ := m_call_one _ _ _ _ _ hc
      have hM' := hI3.sh
      have hTS' : T' S = some (20, n) := (hfr S hSX).1.trans hS
      have hJS' : J' S = J0 S := (hfr S hSX).2
      show m_wp en 40 mLa_law 567 [some (.ref S), some (.ref X), some (.ref M), some (.ref O), some (.int (m_i (6 * (k : Int)))), o5, o6] [(.int (m_i r))] (T', m_I J', P', L', z', w') Q
      refine r_aln eLa_law_567 rfl ?_
      refine r_aln eLa_law_568 rfl ?_
      refine r_il eLa_law_569 rfl ?_
      refine r_con eLa_law_571 ?_
      refine r_add eLa_law_572 ?_
      refine r_ialde (x := (J0 S (6 * (k : Int) + 1).toNat)) eLa_law_573 hTS' (by omega) (by omega) (by omega) (by rw [hJS']) ?_
      refine r_vir eLa_law_574 rfl rfl rfl hM'.2.1 rfl rfl ?_
      refine m_call_mono _ _ _ _ _ _ (fun v s q => ?_) hc
      obtain ⟨J2, rfl, rfl, hI⟩ := q
      show m_wp en 40 mLa_law 577 [some (.ref S), some (.ref X), some (.ref M), some (.ref O), some (.int (m_i (6 * (k : Int)))), o5, o6] [(.int (m_i r)), (.int (m_i r))] (T', m_I J2, P', L', z', w') Q
      refine r_ceqs (tgt := 1481) eLa_law_577 rfl ?_
      exact hend T' J2 P' L' z' w' o5 o6 hI
    · -- 11
      refine r_tcase (v := 11) (tgt := 582) eLa_law_40 c1 ⟨by decide, by decide⟩ ⟨by decide, by decide⟩ rfl rfl ?_
      refine r_aln eLa_law_582 rfl ?_
      refine r_aln eLa_law_583 rfl ?_
      refine r_il eLa_law_584 rfl ?_
      refine r_con eLa_law_586 ?_
      refine r_add eLa_law_587 ?_
      refine r_ialde (x := (J0 S (6 * (k : Int) + 1).toNat)) eLa_law_588 hTS (by omega) (by omega) (by omega) (by rw [hJS]) ?_
      refine r_aln eLa_law_589 rfl ?_
      refine r_il eLa_law_590 rfl ?_
      refine r_con eLa_law_592 ?_
      refine r_add eLa_law_593 ?_
      refine r_ialde (x := (J0 S (6 * (k : Int) + 2).toNat)) eLa_law_594 hTS (by omega) (by omega) (by omega) (by rw [hJS]) ?_
      refine r_vir eLa_law_595 rfl rfl rfl (cl_t h.csh (i := 0) rfl) rfl rfl ?_
      refine m_call_mono _ _ _ _ _ _ (fun v s q => ?_) (t_gap h (hSi _) (hSi _))
      obtain ⟨r, T', J', P', L', z', w', rfl, rfl, hfr, hc⟩ := q
      obtain ⟨v2, s2, ⟨J3, -, -, hI3⟩, -⟩ := m_call_one _ _ _ _ _ hc
      have hM' := hI3.sh
      have hTS' : T' S = some (20, n) := (hfr S hSX).1.trans hS
      have hJS' : J' S = J0 S := (hfr S hSX).2
      show m_wp en 40 mLa_law 598 [some (.ref S), some (.ref X), some (.ref M), some (.ref O), some (.int (m_i (6 * (k : Int)))), o5, o6] [(.int (m_i r))] (T', m_I J', P', L', z', w') Q
      refine r_aln eLa_law_598 rfl ?_
      refine r_aln eLa_law_599 rfl ?_
      refine r_il eLa_law_600 rfl ?_
      refine r_con eLa_law_602 ?_
      refine r_add eLa_law_603 ?_
      refine r_ialde (x := (J0 S (6 * (k : Int) + 1).toNat)) eLa_law_604 hTS' (by omega) (by omega) (by omega) (by rw [hJS']) ?_
      refine r_aln eLa_law_605 rfl ?_
      refine r_il eLa_law_606 rfl ?_
      refine r_con eLa_law_608 ?_
      refine r_add eLa_law_609 ?_
      refine r_ialde (x := (J0 S (6 * (k : Int) + 2).toNat)) eLa_law_610 hTS' (by omega) (by omega) (by omega) (by rw [hJS']) ?_
      refine r_vir eLa_law_611 rfl rfl rfl hM'.2.1 rfl rfl ?_
      refine m_call_mono _ _ _ _ _ _ (fun v s q => ?_) hc
      obtain ⟨J2, rfl, rfl, hI⟩ := q
      show m_wp en 40 mLa_law 614 [some (.ref S), some (.ref X), some (.ref M), some (.ref O), some (.int (m_i (6 * (k : Int)))), o5, o6] [(.int (m_i r)), (.int (m_i r))] (T', m_I J2, P', L', z', w') Q
      refine r_ceqs (tgt := 1481) eLa_law_614 rfl ?_
      exact hend T' J2 P' L' z' w' o5 o6 hI
    · -- 12
      refine r_tcase (v := 12) (tgt := 619) eLa_law_40 c1 ⟨by decide, by decide⟩ ⟨by decide, by decide⟩ rfl rfl ?_
      refine r_aln eLa_law_619 rfl ?_
      refine r_aln eLa_law_620 rfl ?_
      refine r_il eLa_law_621 rfl ?_
      refine r_con eLa_law_623 ?_
      refine r_add eLa_law_624 ?_
      refine r_ialde (x := (J0 S (6 * (k : Int) + 1).toNat)) eLa_law_625 hTS (by omega) (by omega) (by omega) (by rw [hJS]) ?_
      refine r_vir eLa_law_626 rfl rfl rfl (cl_t h.csh (i := 0) rfl) rfl rfl ?_
      refine m_call_mono _ _ _ _ _ _ (fun v s q => ?_) (t_wind h (hSi _))
      obtain ⟨r, T', J', P', L', z', w', rfl, rfl, hfr, hc⟩ := q
      obtain ⟨v2, s2, ⟨J3, -, -, hI3⟩, -⟩ := m_call_one _ _ _ _ _ hc
      have hM' := hI3.sh
      have hTS' : T' S = some (20, n) := (hfr S hSX).1.trans hS
      have hJS' : J' S = J0 S := (hfr S hSX).2
      show m_wp en 40 mLa_law 629 [some (.ref S), some (.ref X), some (.ref M), some (.ref O), some (.int (m_i (6 * (k : Int)))), o5, o6] [(.int (m_i r))] (T', m_I J', P', L', z', w') Q
      refine r_aln eLa_law_629 rfl ?_
      refine r_aln eLa_law_630 rfl ?_
      refine r_il eLa_law_631 rfl ?_
      refine r_con eLa_law_633 ?_
      refine r_add eLa_law_634 ?_
      refine r_ialde (x := (J0 S (6 * (k : Int) + 1).toNat)) eLa_law_635 hTS' (by omega) (by omega) (by omega) (by rw [hJS']) ?_
      refine r_vir eLa_law_636 rfl rfl rfl hM'.2.1 rfl rfl ?_
      refine m_call_mono _ _ _ _ _ _ (fun v s q => ?_) hc
      obtain ⟨J2, rfl, rfl, hI⟩ := q
      show m_wp en 40 mLa_law 639 [some (.ref S), some (.ref X), some (.ref M), some (.ref O), some (.int (m_i (6 * (k : Int)))), o5, o6] [(.int (m_i r)), (.int (m_i r))] (T', m_I J2, P', L', z', w') Q
      refine r_ceqs (tgt := 1481) eLa_law_639 rfl ?_
      exact hend T' J2 P' L' z' w' o5 o6 hI
    · -- 13
      refine r_tcase (v := 13) (tgt := 644) eLa_law_40 c1 ⟨by decide, by decide⟩ ⟨by decide, by decide⟩ rfl rfl ?_
      refine r_aln eLa_law_644 rfl ?_
      refine r_aln eLa_law_645 rfl ?_
      refine r_il eLa_law_646 rfl ?_
      refine r_con eLa_law_648 ?_
      refine r_add eLa_law_649 ?_
      refine r_ialde (x := (J0 S (6 * (k : Int) + 1).toNat)) eLa_law_650 hTS (by omega) (by omega) (by omega) (by rw [hJS]) ?_
      refine r_vir eLa_law_651 rfl rfl rfl (cl_t h.csh (i := 0) rfl) rfl rfl ?_
      refine m_call_mono _ _ _ _ _ _ (fun v s q => ?_) (t_why h (hSi _))
      obtain ⟨r, T', J', P', L', z', w', rfl, rfl, hfr, hc⟩ := q
      obtain ⟨v2, s2, ⟨J3, -, -, hI3⟩, -⟩ := m_call_one _ _ _ _ _ hc
      have hM' := hI3.sh
      have hTS' : T' S = some (20, n) := (hfr S hSX).1.trans hS
      have hJS' : J' S = J0 S := (hfr S hSX).2
      show m_wp en 40 mLa_law 654 [some (.ref S), some (.ref X), some (.ref M), some (.ref O), some (.int (m_i (6 * (k : Int)))), o5, o6] [(.int (m_i r))] (T', m_I J', P', L', z', w') Q
      refine r_aln eLa_law_654 rfl ?_
      refine r_aln eLa_law_655 rfl ?_
      refine r_il eLa_law_656 rfl ?_
      refine r_con eLa_law_658 ?_
      refine r_add eLa_law_659 ?_
      refine r_ialde (x := (J0 S (6 * (k : Int) + 1).toNat)) eLa_law_660 hTS' (by omega) (by omega) (by omega) (by rw [hJS']) ?_
      refine r_vir eLa_law_661 rfl rfl rfl hM'.2.1 rfl rfl ?_
      refine m_call_mono _ _ _ _ _ _ (fun v s q => ?_) hc
      obtain ⟨J2, rfl, rfl, hI⟩ := q
      show m_wp en 40 mLa_law 664 [some (.ref S), some (.ref X), some (.ref M), some (.ref O), some (.int (m_i (6 * (k : Int)))), o5, o6] [(.int (m_i r)), (.int (m_i r))] (T', m_I J2, P', L', z', w') Q
      refine r_ceqs (tgt := 1481) eLa_law_664 rfl ?_
      exact hend T' J2 P' L' z' w' o5 o6 hI
    · -- 14
      refine r_tcase (v := 14) (tgt := 669) eLa_law_40 c1 ⟨by decide, by decide⟩ ⟨by decide, by decide⟩ rfl rfl ?_
      refine r_aln eLa_law_669 rfl ?_
      refine r_vir eLa_law_670 rfl rfl rfl (cl_t h.csh (i := 0) rfl) rfl rfl ?_
      refine m_call_mono _ _ _ _ _ _ (fun v s q => ?_) (t_can h)
      obtain ⟨r, T', J', P', L', z', w', rfl, rfl, hfr, hc⟩ := q
      obtain ⟨v2, s2, ⟨J3, -, -, hI3⟩, -⟩ := m_call_one _ _ _ _ _ hc
      have hM' := hI3.sh
      show m_wp en 40 mLa_law 673 [some (.ref S), some (.ref X), some (.ref M), some (.ref O), some (.int (m_i (6 * (k : Int)))), o5, o6] [(.int (m_i r))] (T', m_I J', P', L', z', w') Q
      refine r_aln eLa_law_673 rfl ?_
      refine r_vir eLa_law_674 rfl rfl rfl hM'.2.1 rfl rfl ?_
      refine m_call_mono _ _ _ _ _ _ (fun v s q => ?_) hc
      obtain ⟨J2, rfl, rfl, hI⟩ := q
      show m_wp en 40 mLa_law 677 [some (.ref S), some (.ref X), some (.ref M), some (.ref O), some (.int (m_i (6 * (k : Int)))), o5, o6] [(.int (m_i r)), (.int (m_i r))] (T', m_I J2, P', L', z', w') Q
      refine r_ceqs (tgt := 1481) eLa_law_677 rfl ?_
      exact hend T' J2 P' L' z' w' o5 o6 hI
    · -- 15
      refine r_tcase (v := 15) (tgt := 682) eLa_law_40 c1 ⟨by decide, by decide⟩ ⟨by decide, by decide⟩ rfl rfl ?_
      refine r_aln eLa_law_682 rfl ?_
      refine r_aln eLa_law_683 rfl ?_
      refine r_il eLa_law_684 rfl ?_
      refine r_con eLa_law_686 ?_
      refine r_add eLa_law_687 ?_
      refine r_ialde (x := (J0 S (6 * (k : Int) + 1).toNat)) eLa_law_688 hTS (by omega) (by omega) (by omega) (by rw [hJS]) ?_
      refine r_vir eLa_law_689 rfl rfl rfl (cl_t h.csh (i := 0) rfl) rfl rfl ?_
      refine m_call_mono _ _ _ _ _ _ (fun v s q => ?_) (t_sway h (hSi _))
      obtain ⟨r, T', J', P', L', z', w', rfl, rfl, hfr, hc⟩ := q
      obtain ⟨v2, s2, ⟨J3, -, -, hI3⟩, -⟩ := m_call_one _ _ _ _ _ hc
      have hM' := hI3.sh
      have hTS' : T' S = some (20, n) := (hfr S hSX).1.trans hS
      have hJS' : J' S = J0 S := (hfr S hSX).2
      show m_wp en 40 mLa_law 692 [some (.ref S), some (.ref X), some (.ref M), some (.ref O), some (.int (m_i (6 * (k : Int)))), o5, o6] [(.int (m_i r))] (T', m_I J', P', L', z', w') Q
      refine r_aln eLa_law_692 rfl ?_
      refine r_aln eLa_law_693 rfl ?_
      refine r_il eLa_law_694 rfl ?_
      refine r_con eLa_law_696 ?_
      refine r_add eLa_law_697 ?_
      refine r_ialde (x := (J0 S (6 * (k : Int) + 1).toNat)) eLa_law_698 hTS' (by omega) (by omega) (by omega) (by rw [hJS']) ?_
      refine r_vir eLa_law_699 rfl rfl rfl hM'.2.1 rfl rfl ?_
      refine m_call_mono _ _ _ _ _ _ (fun v s q => ?_) hc
      obtain ⟨J2, rfl, rfl, hI⟩ := q
      show m_wp en 40 mLa_law 702 [some (.ref S), some (.ref X), some (.ref M), some (.ref O), some (.int (m_i (6 * (k : Int)))), o5, o6] [(.int (m_i r)), (.int (m_i r))] (T', m_I J2, P', L', z', w') Q
      refine r_ceqs (tgt := 1481) eLa_law_702 rfl ?_
      exact hend T' J2 P' L' z' w' o5 o6 hI
    · -- 16
      refine r_tcase (v := 16) (tgt := 707) eLa_law_40 c1 ⟨by decide, by decide⟩ ⟨by decide, by decide⟩ rfl rfl ?_
      refine r_aln eLa_law_707 rfl ?_
      refine r_vir eLa_law_708 rfl rfl rfl (cl_t h.csh (i := 0) rfl) rfl rfl ?_
      refine m_call_mono _ _ _ _ _ _ (fun v s q => ?_) (t_drift h)
      obtain ⟨r, T', J', P', L', z', w', rfl, rfl, hfr, hc⟩ := q
      obtain ⟨v2, s2, ⟨J3, -, -, hI3⟩, -⟩ := m_call_one _ _ _ _ _ hc
      have hM' := hI3.sh
      show m_wp en 40 mLa_law 711 [some (.ref S), some (.ref X), some (.ref M), some (.ref O), some (.int (m_i (6 * (k : Int)))), o5, o6] [(.int (m_i r))] (T', m_I J', P', L', z', w') Q
      refine r_aln eLa_law_711 rfl ?_
      refine r_vir eLa_law_712 rfl rfl rfl hM'.2.1 rfl rfl ?_
      refine m_call_mono _ _ _ _ _ _ (fun v s q => ?_) hc
      obtain ⟨J2, rfl, rfl, hI⟩ := q
      show m_wp en 40 mLa_law 715 [some (.ref S), some (.ref X), some (.ref M), some (.ref O), some (.int (m_i (6 * (k : Int)))), o5, o6] [(.int (m_i r)), (.int (m_i r))] (T', m_I J2, P', L', z', w') Q
      refine r_ceqs (tgt := 1481) eLa_law_715 rfl ?_
      exact hend T' J2 P' L' z' w' o5 o6 hI
    · -- 17
      refine r_tcase (v := 17) (tgt := 720) eLa_law_40 c1 ⟨by decide, by decide⟩ ⟨by decide, by decide⟩ rfl rfl ?_
      refine r_aln eLa_law_720 rfl ?_
      refine r_aln eLa_law_721 rfl ?_
      refine r_il eLa_law_722 rfl ?_
      refine r_con eLa_law_724 ?_
      refine r_add eLa_law_725 ?_
      refine r_ialde (x := (J0 S (6 * (k : Int) + 1).toNat)) eLa_law_726 hTS (by omega) (by omega) (by omega) (by rw [hJS]) ?_
      refine r_vir eLa_law_727 rfl rfl rfl (cl_t h.csh (i := 0) rfl) rfl rfl ?_
      refine m_call_mono _ _ _ _ _ _ (fun v s q => ?_) (t_fewest h (hSi _))
      obtain ⟨r, T', J', P', L', z', w', rfl, rfl, hfr, hc⟩ := q
      obtain ⟨v2, s2, ⟨J3, -, -, hI3⟩, -⟩ := m_call_one _ _ _ _ _ hc
      have hM' := hI3.sh
      have hTS' : T' S = some (20, n) := (hfr S hSX).1.trans hS
      have hJS' : J' S = J0 S := (hfr S hSX).2
      show m_wp en 40 mLa_law 730 [some (.ref S), some (.ref X), some (.ref M), some (.ref O), some (.int (m_i (6 * (k : Int)))), o5, o6] [(.int (m_i r))] (T', m_I J', P', L', z', w') Q
      refine r_aln eLa_law_730 rfl ?_
      refine r_aln eLa_law_731 rfl ?_
      refine r_il eLa_law_732 rfl ?_
      refine r_con eLa_law_734 ?_
      refine r_add eLa_law_735 ?_
      refine r_ialde (x := (J0 S (6 * (k : Int) + 1).toNat)) eLa_law_736 hTS' (by omega) (by omega) (by omega) (by rw [hJS']) ?_
      refine r_vir eLa_law_737 rfl rfl rfl hM'.2.1 rfl rfl ?_
      refine m_call_mono _ _ _ _ _ _ (fun v s q => ?_) hc
      obtain ⟨J2, rfl, rfl, hI⟩ := q
      show m_wp en 40 mLa_law 740 [some (.ref S), some (.ref X), some (.ref M), some (.ref O), some (.int (m_i (6 * (k : Int)))), o5, o6] [(.int (m_i r)), (.int (m_i r))] (T', m_I J2, P', L', z', w') Q
      refine r_ceqs (tgt := 1481) eLa_law_740 rfl ?_
      exact hend T' J2 P' L' z' w' o5 o6 hI
    · -- 18
      refine r_tcase (v := 18) (tgt := 745) eLa_law_40 c1 ⟨by decide, by decide⟩ ⟨by decide, by decide⟩ rfl rfl ?_
      refine r_aln eLa_law_745 rfl ?_
      refine r_aln eLa_law_746 rfl ?_
      refine r_il eLa_law_747 rfl ?_
      refine r_con eLa_law_749 ?_
      refine r_add eLa_law_750 ?_
      refine r_ialde (x := (J0 S (6 * (k : Int) + 1).toNat)) eLa_law_751 hTS (by omega) (by omega) (by omega) (by rw [hJS]) ?_
      refine r_aln eLa_law_752 rfl ?_
      refine r_il eLa_law_753 rfl ?_
      refine r_con eLa_law_755 ?_
      refine r_add eLa_law_756 ?_
      refine r_ialde (x := (J0 S (6 * (k : Int) + 2).toNat)) eLa_law_757 hTS (by omega) (by omega) (by omega) (by rw [hJS]) ?_
      refine r_vir eLa_law_758 rfl rfl rfl (cl_t h.csh (i := 0) rfl) rfl rfl ?_
      refine m_call_mono _ _ _ _ _ _ (fun v s q => ?_) (t_by h (hSi _) (hSi _))
      obtain ⟨r, T', J', P', L', z', w', rfl, rfl, hfr, hc⟩ := q
      obtain ⟨v2, s2, ⟨J3, -, -, hI3⟩, -⟩ := m_call_one _ _ _ _ _ hc
      have hM' := hI3.sh
      have hTS' : T' S = some (20, n) := (hfr S hSX).1.trans hS
      have hJS' : J' S = J0 S := (hfr S hSX).2
      show m_wp en 40 mLa_law 761 [some (.ref S), some (.ref X), some (.ref M), some (.ref O), some (.int (m_i (6 * (k : Int)))), o5, o6] [(.int (m_i r))] (T', m_I J', P', L', z', w') Q
      refine r_aln eLa_law_761 rfl ?_
      refine r_aln eLa_law_762 rfl ?_
      refine r_il eLa_law_763 rfl ?_
      refine r_con eLa_law_765 ?_
      refine r_add eLa_law_766 ?_
      refine r_ialde (x := (J0 S (6 * (k : Int) + 1).toNat)) eLa_law_767 hTS' (by omega) (by omega) (by omega) (by rw [hJS']) ?_
      refine r_aln eLa_law_768 rfl ?_
      refine r_il eLa_law_769 rfl ?_
      refine r_con eLa_law_771 ?_
      refine r_add eLa_law_772 ?_
      refine r_ialde (x := (J0 S (6 * (k : Int) + 2).toNat)) eLa_law_773 hTS' (by omega) (by omega) (by omega) (by rw [hJS']) ?_
      refine r_vir eLa_law_774 rfl rfl rfl hM'.2.1 rfl rfl ?_
      refine m_call_mono _ _ _ _ _ _ (fun v s q => ?_) hc
      obtain ⟨J2, rfl, rfl, hI⟩ := q
      show m_wp en 40 mLa_law 777 [some (.ref S), some (.ref X), some (.ref M), some (.ref O), some (.int (m_i (6 * (k : Int)))), o5, o6] [(.int (m_i r)), (.int (m_i r))] (T', m_I J2, P', L', z', w') Q
      refine r_ceqs (tgt := 1481) eLa_law_777 rfl ?_
      exact hend T' J2 P' L' z' w' o5 o6 hI
    · -- 19
      refine r_tcase (v := 19) (tgt := 782) eLa_law_40 c1 ⟨by decide, by decide⟩ ⟨by decide, by decide⟩ rfl rfl ?_
      refine r_aln eLa_law_782 rfl ?_
      refine r_vir eLa_law_783 rfl rfl rfl (cl_t h.csh (i := 0) rfl) rfl rfl ?_
      refine m_call_mono _ _ _ _ _ _ (fun v s q => ?_) (t_halt h)
      obtain ⟨r, T', J', P', L', z', w', rfl, rfl, hfr, hc⟩ := q
      obtain ⟨v2, s2, ⟨J3, -, -, hI3⟩, -⟩ := m_call_one _ _ _ _ _ hc
      have hM' := hI3.sh
      show m_wp en 40 mLa_law 786 [some (.ref S), some (.ref X), some (.ref M), some (.ref O), some (.int (m_i (6 * (k : Int)))), o5, o6] [(.int (m_i r))] (T', m_I J', P', L', z', w') Q
      refine r_aln eLa_law_786 rfl ?_
      refine r_vir eLa_law_787 rfl rfl rfl hM'.2.1 rfl rfl ?_
      refine m_call_mono _ _ _ _ _ _ (fun v s q => ?_) hc
      obtain ⟨J2, rfl, rfl, hI⟩ := q
      show m_wp en 40 mLa_law 790 [some (.ref S), some (.ref X), some (.ref M), some (.ref O), some (.int (m_i (6 * (k : Int)))), o5, o6] [(.int (m_i r)), (.int (m_i r))] (T', m_I J2, P', L', z', w') Q
      refine r_ceqs (tgt := 1481) eLa_law_790 rfl ?_
      exact hend T' J2 P' L' z' w' o5 o6 hI
    · -- 20
      refine r_tcase (v := 20) (tgt := 795) eLa_law_40 c1 ⟨by decide, by decide⟩ ⟨by decide, by decide⟩ rfl rfl ?_
      refine r_aln eLa_law_795 rfl ?_
      refine r_aln eLa_law_796 rfl ?_
      refine r_il eLa_law_797 rfl ?_
      refine r_con eLa_law_799 ?_
      refine r_add eLa_law_800 ?_
      refine r_ialde (x := (J0 S (6 * (k : Int) + 1).toNat)) eLa_law_801 hTS (by omega) (by omega) (by omega) (by rw [hJS]) ?_
      refine r_vir eLa_law_802 rfl rfl rfl (cl_t h.csh (i := 0) rfl) rfl rfl ?_
      refine m_call_mono _ _ _ _ _ _ (fun v s q => ?_) (t_rests h (hSi _))
      obtain ⟨r, T', J', P', L', z', w', rfl, rfl, hfr, hc⟩ := q
      obtain ⟨v2, s2, ⟨J3, -, -, hI3⟩, -⟩ := m_call_one _ _ _ _ _ hc
      have hM' := hI3.sh
      have hTS' : T' S = some (20, n) := (hfr S hSX).1.trans hS
      have hJS' : J' S = J0 S := (hfr S hSX).2
      show m_wp en 40 mLa_law 805 [some (.ref S), some (.ref X), some (.ref M), some (.ref O), some (.int (m_i (6 * (k : Int)))), o5, o6] [(.int (m_i r))] (T', m_I J', P', L', z', w') Q
      refine r_aln eLa_law_805 rfl ?_
      refine r_aln eLa_law_806 rfl ?_
      refine r_il eLa_law_807 rfl ?_
      refine r_con eLa_law_809 ?_
      refine r_add eLa_law_810 ?_
      refine r_ialde (x := (J0 S (6 * (k : Int) + 1).toNat)) eLa_law_811 hTS' (by omega) (by omega) (by omega) (by rw [hJS']) ?_
      refine r_vir eLa_law_812 rfl rfl rfl hM'.2.1 rfl rfl ?_
      refine m_call_mono _ _ _ _ _ _ (fun v s q => ?_) hc
      obtain ⟨J2, rfl, rfl, hI⟩ := q
      show m_wp en 40 mLa_law 815 [some (.ref S), some (.ref X), some (.ref M), some (.ref O), some (.int (m_i (6 * (k : Int)))), o5, o6] [(.int (m_i r)), (.int (m_i r))] (T', m_I J2, P', L', z', w') Q
      refine r_ceqs (tgt := 1481) eLa_law_815 rfl ?_
      exact hend T' J2 P' L' z' w' o5 o6 hI
    · -- 21
      refine r_tcase (v := 21) (tgt := 820) eLa_law_40 c1 ⟨by decide, by decide⟩ ⟨by decide, by decide⟩ rfl rfl ?_
      refine r_aln eLa_law_820 rfl ?_
      refine r_aln eLa_law_821 rfl ?_
      refine r_il eLa_law_822 rfl ?_
      refine r_con eLa_law_824 ?_
      refine r_add eLa_law_825 ?_
      refine r_ialde (x := (J0 S (6 * (k : Int) + 1).toNat)) eLa_law_826 hTS (by omega) (by omega) (by omega) (by rw [hJS]) ?_
      refine r_aln eLa_law_827 rfl ?_
      refine r_il eLa_law_828 rfl ?_
      refine r_con eLa_law_830 ?_
      refine r_add eLa_law_831 ?_
      refine r_ialde (x := (J0 S (6 * (k : Int) + 2).toNat)) eLa_law_832 hTS (by omega) (by omega) (by omega) (by rw [hJS]) ?_
      refine r_vir eLa_law_833 rfl rfl rfl (cl_t h.csh (i := 0) rfl) rfl rfl ?_
      refine m_call_mono _ _ _ _ _ _ (fun v s q => ?_) (t_between h (hSi _) (hSi _))
      obtain ⟨r, T', J', P', L', z', w', rfl, rfl, hfr, hc⟩ := q
      obtain ⟨v2, s2, ⟨J3, -, -, hI3⟩, -⟩ := m_call_one _ _ _ _ _ hc
      have hM' := hI3.sh
      have hTS' : T' S = some (20, n) := (hfr S hSX).1.trans hS
      have hJS' : J' S = J0 S := (hfr S hSX).2
      show m_wp en 40 mLa_law 836 [some (.ref S), some (.ref X), some (.ref M), some (.ref O), some (.int (m_i (6 * (k : Int)))), o5, o6] [(.int (m_i r))] (T', m_I J', P', L', z', w') Q
      refine r_aln eLa_law_836 rfl ?_
      refine r_aln eLa_law_837 rfl ?_
      refine r_il eLa_law_838 rfl ?_
      refine r_con eLa_law_840 ?_
      refine r_add eLa_law_841 ?_
      refine r_ialde (x := (J0 S (6 * (k : Int) + 1).toNat)) eLa_law_842 hTS' (by omega) (by omega) (by omega) (by rw [hJS']) ?_
      refine r_aln eLa_law_843 rfl ?_
      refine r_il eLa_law_844 rfl ?_
      refine r_con eLa_law_846 ?_
      refine r_add eLa_law_847 ?_
      refine r_ialde (x := (J0 S (6 * (k : Int) + 2).toNat)) eLa_law_848 hTS' (by omega) (by omega) (by omega) (by rw [hJS']) ?_
      refine r_vir eLa_law_849 rfl rfl rfl hM'.2.1 rfl rfl ?_
      refine m_call_mono _ _ _ _ _ _ (fun v s q => ?_) hc
      obtain ⟨J2, rfl, rfl, hI⟩ := q
      show m_wp en 40 mLa_law 852 [some (.ref S), some (.ref X), some (.ref M), some (.ref O), some (.int (m_i (6 * (k : Int)))), o5, o6] [(.int (m_i r)), (.int (m_i r))] (T', m_I J2, P', L', z', w') Q
      refine r_ceqs (tgt := 1481) eLa_law_852 rfl ?_
      exact hend T' J2 P' L' z' w' o5 o6 hI
    · -- 22
      refine r_tcase (v := 22) (tgt := 857) eLa_law_40 c1 ⟨by decide, by decide⟩ ⟨by decide, by decide⟩ rfl rfl ?_
      refine r_aln eLa_law_857 rfl ?_
      refine r_vir eLa_law_858 rfl rfl rfl (cl_t h.csh (i := 0) rfl) rfl rfl ?_
      refine m_call_mono _ _ _ _ _ _ (fun v s q => ?_) (t_tour h (by omega))
      obtain ⟨r, T', J', P', L', z', w', rfl, rfl, hfr, hc⟩ := q
      obtain ⟨v2, s2, ⟨J3, -, -, hI3⟩, -⟩ := m_call_one _ _ _ _ _ hc
      have hM' := hI3.sh
      show m_wp en 40 mLa_law 861 [some (.ref S), some (.ref X), some (.ref M), some (.ref O), some (.int (m_i (6 * (k : Int)))), o5, o6] [(.int (m_i r))] (T', m_I J', P', L', z', w') Q
      refine r_aln eLa_law_861 rfl ?_
      refine r_vir eLa_law_862 rfl rfl rfl hM'.2.1 rfl rfl ?_
      refine m_call_mono _ _ _ _ _ _ (fun v s q => ?_) hc
      obtain ⟨J2, rfl, rfl, hI⟩ := q
      show m_wp en 40 mLa_law 865 [some (.ref S), some (.ref X), some (.ref M), some (.ref O), some (.int (m_i (6 * (k : Int)))), o5, o6] [(.int (m_i r)), (.int (m_i r))] (T', m_I J2, P', L', z', w') Q
      refine r_ceqs (tgt := 1481) eLa_law_865 rfl ?_
      exact hend T' J2 P' L' z' w' o5 o6 hI
    · -- 23
      refine r_tcase (v := 23) (tgt := 870) eLa_law_40 c1 ⟨by decide, by decide⟩ ⟨by decide, by decide⟩ rfl rfl ?_
      refine r_aln eLa_law_870 rfl ?_
      refine r_aln eLa_law_871 rfl ?_
      refine r_il eLa_law_872 rfl ?_
      refine r_con eLa_law_874 ?_
      refine r_add eLa_law_875 ?_
      refine r_ialde (x := (J0 S (6 * (k : Int) + 1).toNat)) eLa_law_876 hTS (by omega) (by omega) (by omega) (by rw [hJS]) ?_
      refine r_vir eLa_law_877 rfl rfl rfl (cl_t h.csh (i := 0) rfl) rfl rfl ?_
      refine m_call_mono _ _ _ _ _ _ (fun v s q => ?_) (t_stop h (by omega) (hSi _))
      obtain ⟨r, T', J', P', L', z', w', rfl, rfl, hfr, hc⟩ := q
      obtain ⟨v2, s2, ⟨J3, -, -, hI3⟩, -⟩ := m_call_one _ _ _ _ _ hc
      have hM' := hI3.sh
      have hTS' : T' S = some (20, n) := (hfr S hSX).1.trans hS
      have hJS' : J' S = J0 S := (hfr S hSX).2
      show m_wp en 40 mLa_law 880 [some (.ref S), some (.ref X), some (.ref M), some (.ref O), some (.int (m_i (6 * (k : Int)))), o5, o6] [(.int (m_i r))] (T', m_I J', P', L', z', w') Q
      refine r_aln eLa_law_880 rfl ?_
      refine r_aln eLa_law_881 rfl ?_
      refine r_il eLa_law_882 rfl ?_
      refine r_con eLa_law_884 ?_
      refine r_add eLa_law_885 ?_
      refine r_ialde (x := (J0 S (6 * (k : Int) + 1).toNat)) eLa_law_886 hTS' (by omega) (by omega) (by omega) (by rw [hJS']) ?_
      refine r_vir eLa_law_887 rfl rfl rfl hM'.2.1 rfl rfl ?_
      refine m_call_mono _ _ _ _ _ _ (fun v s q => ?_) hc
      obtain ⟨J2, rfl, rfl, hI⟩ := q
      show m_wp en 40 mLa_law 890 [some (.ref S), some (.ref X), some (.ref M), some (.ref O), some (.int (m_i (6 * (k : Int)))), o5, o6] [(.int (m_i r)), (.int (m_i r))] (T', m_I J2, P', L', z', w') Q
      refine r_ceqs (tgt := 1481) eLa_law_890 rfl ?_
      exact hend T' J2 P' L' z' w' o5 o6 hI
    · -- 24
      refine r_tcase (v := 24) (tgt := 895) eLa_law_40 c1 ⟨by decide, by decide⟩ ⟨by decide, by decide⟩ rfl rfl ?_
      refine r_aln eLa_law_895 rfl ?_
      refine r_aln eLa_law_896 rfl ?_
      refine r_il eLa_law_897 rfl ?_
      refine r_con eLa_law_899 ?_
      refine r_add eLa_law_900 ?_
      refine r_ialde (x := (J0 S (6 * (k : Int) + 1).toNat)) eLa_law_901 hTS (by omega) (by omega) (by omega) (by rw [hJS]) ?_
      refine r_aln eLa_law_902 rfl ?_
      refine r_il eLa_law_903 rfl ?_
      refine r_con eLa_law_905 ?_
      refine r_add eLa_law_906 ?_
      refine r_ialde (x := (J0 S (6 * (k : Int) + 2).toNat)) eLa_law_907 hTS (by omega) (by omega) (by omega) (by rw [hJS]) ?_
      refine r_vir eLa_law_908 rfl rfl rfl (cl_t h.csh (i := 0) rfl) rfl rfl ?_
      refine m_call_mono _ _ _ _ _ _ (fun v s q => ?_) (t_carry h (hSi _) (hSi _))
      obtain ⟨r, T', J', P', L', z', w', rfl, rfl, hfr, hc⟩ := q
      obtain ⟨v2, s2, ⟨J3, -, -, hI3⟩, -⟩ := m_call_one _ _ _ _ _ hc
      have hM' := hI3.sh
      have hTS' : T' S = some (20, n) := (hfr S hSX).1.trans hS
      have hJS' : J' S = J0 S := (hfr S hSX).2
      show m_wp en 40 mLa_law 911 [some (.ref S), some (.ref X), some (.ref M), some (.ref O), some (.int (m_i (6 * (k : Int)))), o5, o6] [(.int (m_i r))] (T', m_I J', P', L', z', w') Q
      refine r_aln eLa_law_911 rfl ?_
      refine r_aln eLa_law_912 rfl ?_
      refine r_il eLa_law_913 rfl ?_
      refine r_con eLa_law_915 ?_
      refine r_add eLa_law_916 ?_
      refine r_ialde (x := (J0 S (6 * (k : Int) + 1).toNat)) eLa_law_917 hTS' (by omega) (by omega) (by omega) (by rw [hJS']) ?_
      refine r_aln eLa_law_918 rfl ?_
      refine r_il eLa_law_919 rfl ?_
      refine r_con eLa_law_921 ?_
      refine r_add eLa_law_922 ?_
      refine r_ialde (x := (J0 S (6 * (k : Int) + 2).toNat)) eLa_law_923 hTS' (by omega) (by omega) (by omega) (by rw [hJS']) ?_
      refine r_vir eLa_law_924 rfl rfl rfl hM'.2.1 rfl rfl ?_
      refine m_call_mono _ _ _ _ _ _ (fun v s q => ?_) hc
      obtain ⟨J2, rfl, rfl, hI⟩ := q
      show m_wp en 40 mLa_law 927 [some (.ref S), some (.ref X), some (.ref M), some (.ref O), some (.int (m_i (6 * (k : Int)))), o5, o6] [(.int (m_i r)), (.int (m_i r))] (T', m_I J2, P', L', z', w') Q
      refine r_ceqs (tgt := 1481) eLa_law_927 rfl ?_
      exact hend T' J2 P' L' z' w' o5 o6 hI
    · -- 25
      refine r_tcase (v := 25) (tgt := 932) eLa_law_40 c1 ⟨by decide, by decide⟩ ⟨by decide, by decide⟩ rfl rfl ?_
      refine r_aln eLa_law_932 rfl ?_
      refine r_vir eLa_law_933 rfl rfl rfl (cl_t h.csh (i := 0) rfl) rfl rfl ?_
      refine m_call_mono _ _ _ _ _ _ (fun v s q => ?_) (t_jobs h (by omega))
      obtain ⟨r, T', J', P', L', z', w', rfl, rfl, hfr, hc⟩ := q
      obtain ⟨v2, s2, ⟨J3, -, -, hI3⟩, -⟩ := m_call_one _ _ _ _ _ hc
      have hM' := hI3.sh
      show m_wp en 40 mLa_law 936 [some (.ref S), some (.ref X), some (.ref M), some (.ref O), some (.int (m_i (6 * (k : Int)))), o5, o6] [(.int (m_i r))] (T', m_I J', P', L', z', w') Q
      refine r_aln eLa_law_936 rfl ?_
      refine r_vir eLa_law_937 rfl rfl rfl hM'.2.1 rfl rfl ?_
      refine m_call_mono _ _ _ _ _ _ (fun v s q => ?_) hc
      obtain ⟨J2, rfl, rfl, hI⟩ := q
      show m_wp en 40 mLa_law 940 [some (.ref S), some (.ref X), some (.ref M), some (.ref O), some (.int (m_i (6 * (k : Int)))), o5, o6] [(.int (m_i r)), (.int (m_i r))] (T', m_I J2, P', L', z', w') Q
      refine r_ceqs (tgt := 1481) eLa_law_940 rfl ?_
      exact hend T' J2 P' L' z' w' o5 o6 hI
    · -- 26
      refine r_tcase (v := 26) (tgt := 945) eLa_law_40 c1 ⟨by decide, by decide⟩ ⟨by decide, by decide⟩ rfl rfl ?_
      refine r_aln eLa_law_945 rfl ?_
      refine r_aln eLa_law_946 rfl ?_
      refine r_il eLa_law_947 rfl ?_
      refine r_con eLa_law_949 ?_
      refine r_add eLa_law_950 ?_
      refine r_ialde (x := (J0 S (6 * (k : Int) + 1).toNat)) eLa_law_951 hTS (by omega) (by omega) (by omega) (by rw [hJS]) ?_
      refine r_vir eLa_law_952 rfl rfl rfl (cl_t h.csh (i := 0) rfl) rfl rfl ?_
      refine m_call_mono _ _ _ _ _ _ (fun v s q => ?_) (t_job h (by omega) (hSi _))
      obtain ⟨r, T', J', P', L', z', w', rfl, rfl, hfr, hc⟩ := q
      obtain ⟨v2, s2, ⟨J3, -, -, hI3⟩, -⟩ := m_call_one _ _ _ _ _ hc
      have hM' := hI3.sh
      have hTS' : T' S = some (20, n) := (hfr S hSX).1.trans hS
      have hJS' : J' S = J0 S := (hfr S hSX).2
      show m_wp en 40 mLa_law 955 [some (.ref S), some (.ref X), some (.ref M), some (.ref O), some (.int (m_i (6 * (k : Int)))), o5, o6] [(.int (m_i r))] (T', m_I J', P', L', z', w') Q
      refine r_aln eLa_law_955 rfl ?_
      refine r_aln eLa_law_956 rfl ?_
      refine r_il eLa_law_957 rfl ?_
      refine r_con eLa_law_959 ?_
      refine r_add eLa_law_960 ?_
      refine r_ialde (x := (J0 S (6 * (k : Int) + 1).toNat)) eLa_law_961 hTS' (by omega) (by omega) (by omega) (by rw [hJS']) ?_
      refine r_vir eLa_law_962 rfl rfl rfl hM'.2.1 rfl rfl ?_
      refine m_call_mono _ _ _ _ _ _ (fun v s q => ?_) hc
      obtain ⟨J2, rfl, rfl, hI⟩ := q
      show m_wp en 40 mLa_law 965 [some (.ref S), some (.ref X), some (.ref M), some (.ref O), some (.int (m_i (6 * (k : Int)))), o5, o6] [(.int (m_i r)), (.int (m_i r))] (T', m_I J2, P', L', z', w') Q
      refine r_ceqs (tgt := 1481) eLa_law_965 rfl ?_
      exact hend T' J2 P' L' z' w' o5 o6 hI
    · -- 27
      refine r_tcase (v := 27) (tgt := 970) eLa_law_40 c1 ⟨by decide, by decide⟩ ⟨by decide, by decide⟩ rfl rfl ?_
      refine r_aln eLa_law_970 rfl ?_
      refine r_aln eLa_law_971 rfl ?_
      refine r_il eLa_law_972 rfl ?_
      refine r_con eLa_law_974 ?_
      refine r_add eLa_law_975 ?_
      refine r_ialde (x := (J0 S (6 * (k : Int) + 1).toNat)) eLa_law_976 hTS (by omega) (by omega) (by omega) (by rw [hJS]) ?_
      refine r_aln eLa_law_977 rfl ?_
      refine r_il eLa_law_978 rfl ?_
      refine r_con eLa_law_980 ?_
      refine r_add eLa_law_981 ?_
      refine r_ialde (x := (J0 S (6 * (k : Int) + 2).toNat)) eLa_law_982 hTS (by omega) (by omega) (by omega) (by rw [hJS]) ?_
      refine r_vir eLa_law_983 rfl rfl rfl (cl_t h.csh (i := 0) rfl) rfl rfl ?_
      refine m_call_mono _ _ _ _ _ _ (fun v s q => ?_) (t_ifPile h (hSi _) (hSi _))
      obtain ⟨r, T', J', P', L', z', w', rfl, rfl, hfr, hc⟩ := q
      obtain ⟨v2, s2, ⟨J3, -, -, hI3⟩, -⟩ := m_call_one _ _ _ _ _ hc
      have hM' := hI3.sh
      have hTS' : T' S = some (20, n) := (hfr S hSX).1.trans hS
      have hJS' : J' S = J0 S := (hfr S hSX).2
      show m_wp en 40 mLa_law 986 [some (.ref S), some (.ref X), some (.ref M), some (.ref O), some (.int (m_i (6 * (k : Int)))), o5, o6] [(.int (m_i r))] (T', m_I J', P', L', z', w') Q
      refine r_aln eLa_law_986 rfl ?_
      refine r_aln eLa_law_987 rfl ?_
      refine r_il eLa_law_988 rfl ?_
      refine r_con eLa_law_990 ?_
      refine r_add eLa_law_991 ?_
      refine r_ialde (x := (J0 S (6 * (k : Int) + 1).toNat)) eLa_law_992 hTS' (by omega) (by omega) (by omega) (by rw [hJS']) ?_
      refine r_aln eLa_law_993 rfl ?_
      refine r_il eLa_law_994 rfl ?_
      refine r_con eLa_law_996 ?_
      refine r_add eLa_law_997 ?_
      refine r_ialde (x := (J0 S (6 * (k : Int) + 2).toNat)) eLa_law_998 hTS' (by omega) (by omega) (by omega) (by rw [hJS']) ?_
      refine r_vir eLa_law_999 rfl rfl rfl hM'.2.1 rfl rfl ?_
      refine m_call_mono _ _ _ _ _ _ (fun v s q => ?_) hc
      obtain ⟨J2, rfl, rfl, hI⟩ := q
      show m_wp en 40 mLa_law 1002 [some (.ref S), some (.ref X), some (.ref M), some (.ref O), some (.int (m_i (6 * (k : Int)))), o5, o6] [(.int (m_i r)), (.int (m_i r))] (T', m_I J2, P', L', z', w') Q
      refine r_ceqs (tgt := 1481) eLa_law_1002 rfl ?_
      exact hend T' J2 P' L' z' w' o5 o6 hI
    · -- 28
      refine r_tcase (v := 28) (tgt := 1007) eLa_law_40 c1 ⟨by decide, by decide⟩ ⟨by decide, by decide⟩ rfl rfl ?_
      refine r_aln eLa_law_1007 rfl ?_
      refine r_aln eLa_law_1008 rfl ?_
      refine r_il eLa_law_1009 rfl ?_
      refine r_con eLa_law_1011 ?_
      refine r_add eLa_law_1012 ?_
      refine r_ialde (x := (J0 S (6 * (k : Int) + 1).toNat)) eLa_law_1013 hTS (by omega) (by omega) (by omega) (by rw [hJS]) ?_
      refine r_vir eLa_law_1014 rfl rfl rfl (cl_t h.csh (i := 0) rfl) rfl rfl ?_
      refine m_call_mono _ _ _ _ _ _ (fun v s q => ?_) (t_reach h (hSi _))
      obtain ⟨r, T', J', P', L', z', w', rfl, rfl, hfr, hc⟩ := q
      obtain ⟨v2, s2, ⟨J3, -, -, hI3⟩, -⟩ := m_call_one _ _ _ _ _ hc
      have hM' := hI3.sh
      have hTS' : T' S = some (20, n) := (hfr S hSX).1.trans hS
      have hJS' : J' S = J0 S := (hfr S hSX).2
      show m_wp en 40 mLa_law 1017 [some (.ref S), some (.ref X), some (.ref M), some (.ref O), some (.int (m_i (6 * (k : Int)))), o5, o6] [(.int (m_i r))] (T', m_I J', P', L', z', w') Q
      refine r_aln eLa_law_1017 rfl ?_
      refine r_aln eLa_law_1018 rfl ?_
      refine r_il eLa_law_1019 rfl ?_
      refine r_con eLa_law_1021 ?_
      refine r_add eLa_law_1022 ?_
      refine r_ialde (x := (J0 S (6 * (k : Int) + 1).toNat)) eLa_law_1023 hTS' (by omega) (by omega) (by omega) (by rw [hJS']) ?_
      refine r_vir eLa_law_1024 rfl rfl rfl hM'.2.1 rfl rfl ?_
      refine m_call_mono _ _ _ _ _ _ (fun v s q => ?_) hc
      obtain ⟨J2, rfl, rfl, hI⟩ := q
      show m_wp en 40 mLa_law 1027 [some (.ref S), some (.ref X), some (.ref M), some (.ref O), some (.int (m_i (6 * (k : Int)))), o5, o6] [(.int (m_i r)), (.int (m_i r))] (T', m_I J2, P', L', z', w') Q
      refine r_ceqs (tgt := 1481) eLa_law_1027 rfl ?_
      exact hend T' J2 P' L' z' w' o5 o6 hI
    · -- 29
      refine r_tcase (v := 29) (tgt := 1032) eLa_law_40 c1 ⟨by decide, by decide⟩ ⟨by decide, by decide⟩ rfl rfl ?_
      refine r_aln eLa_law_1032 rfl ?_
      refine r_aln eLa_law_1033 rfl ?_
      refine r_il eLa_law_1034 rfl ?_
      refine r_con eLa_law_1036 ?_
      refine r_add eLa_law_1037 ?_
      refine r_ialde (x := (J0 S (6 * (k : Int) + 1).toNat)) eLa_law_1038 hTS (by omega) (by omega) (by omega) (by rw [hJS]) ?_
      refine r_vir eLa_law_1039 rfl rfl rfl (cl_t h.csh (i := 0) rfl) rfl rfl ?_
      refine m_call_mono _ _ _ _ _ _ (fun v s q => ?_) (t_safe h (hSi _))
      obtain ⟨r, T', J', P', L', z', w', rfl, rfl, hfr, hc⟩ := q
      obtain ⟨v2, s2, ⟨J3, -, -, hI3⟩, -⟩ := m_call_one _ _ _ _ _ hc
      have hM' := hI3.sh
      have hTS' : T' S = some (20, n) := (hfr S hSX).1.trans hS
      have hJS' : J' S = J0 S := (hfr S hSX).2
      show m_wp en 40 mLa_law 1042 [some (.ref S), some (.ref X), some (.ref M), some (.ref O), some (.int (m_i (6 * (k : Int)))), o5, o6] [(.int (m_i r))] (T', m_I J', P', L', z', w') Q
      refine r_aln eLa_law_1042 rfl ?_
      refine r_aln eLa_law_1043 rfl ?_
      refine r_il eLa_law_1044 rfl ?_
      refine r_con eLa_law_1046 ?_
      refine r_add eLa_law_1047 ?_
      refine r_ialde (x := (J0 S (6 * (k : Int) + 1).toNat)) eLa_law_1048 hTS' (by omega) (by omega) (by omega) (by rw [hJS']) ?_
      refine r_vir eLa_law_1049 rfl rfl rfl hM'.2.1 rfl rfl ?_
      refine m_call_mono _ _ _ _ _ _ (fun v s q => ?_) hc
      obtain ⟨J2, rfl, rfl, hI⟩ := q
      show m_wp en 40 mLa_law 1052 [some (.ref S), some (.ref X), some (.ref M), some (.ref O), some (.int (m_i (6 * (k : Int)))), o5, o6] [(.int (m_i r)), (.int (m_i r))] (T', m_I J2, P', L', z', w') Q
      refine r_ceqs (tgt := 1481) eLa_law_1052 rfl ?_
      exact hend T' J2 P' L' z' w' o5 o6 hI
    · -- 30
      refine r_tcase (v := 30) (tgt := 1057) eLa_law_40 c1 ⟨by decide, by decide⟩ ⟨by decide, by decide⟩ rfl rfl ?_
      refine r_aln eLa_law_1057 rfl ?_
      refine r_vir eLa_law_1058 rfl rfl rfl (cl_t h.csh (i := 0) rfl) rfl rfl ?_
      refine m_call_mono _ _ _ _ _ _ (fun v s q => ?_) (t_bears h)
      obtain ⟨r, T', J', P', L', z', w', rfl, rfl, hfr, hc⟩ := q
      obtain ⟨v2, s2, ⟨J3, -, -, hI3⟩, -⟩ := m_call_one _ _ _ _ _ hc
      have hM' := hI3.sh
      show m_wp en 40 mLa_law 1061 [some (.ref S), some (.ref X), some (.ref M), some (.ref O), some (.int (m_i (6 * (k : Int)))), o5, o6] [(.int (m_i r))] (T', m_I J', P', L', z', w') Q
      refine r_aln eLa_law_1061 rfl ?_
      refine r_vir eLa_law_1062 rfl rfl rfl hM'.2.1 rfl rfl ?_
      refine m_call_mono _ _ _ _ _ _ (fun v s q => ?_) hc
      obtain ⟨J2, rfl, rfl, hI⟩ := q
      show m_wp en 40 mLa_law 1065 [some (.ref S), some (.ref X), some (.ref M), some (.ref O), some (.int (m_i (6 * (k : Int)))), o5, o6] [(.int (m_i r)), (.int (m_i r))] (T', m_I J2, P', L', z', w') Q
      refine r_ceqs (tgt := 1481) eLa_law_1065 rfl ?_
      exact hend T' J2 P' L' z' w' o5 o6 hI
    · -- 31
      refine r_tcase (v := 31) (tgt := 1070) eLa_law_40 c1 ⟨by decide, by decide⟩ ⟨by decide, by decide⟩ rfl rfl ?_
      refine r_aln eLa_law_1070 rfl ?_
      refine r_aln eLa_law_1071 rfl ?_
      refine r_il eLa_law_1072 rfl ?_
      refine r_con eLa_law_1074 ?_
      refine r_add eLa_law_1075 ?_
      refine r_ialde (x := (J0 S (6 * (k : Int) + 1).toNat)) eLa_law_1076 hTS (by omega) (by omega) (by omega) (by rw [hJS]) ?_
      refine r_aln eLa_law_1077 rfl ?_
      refine r_il eLa_law_1078 rfl ?_
      refine r_con eLa_law_1080 ?_
      refine r_add eLa_law_1081 ?_
      refine r_ialde (x := (J0 S (6 * (k : Int) + 2).toNat)) eLa_law_1082 hTS (by omega) (by omega) (by omega) (by rw [hJS]) ?_
      refine r_aln eLa_law_1083 rfl ?_
      refine r_il eLa_law_1084 rfl ?_
      refine r_con eLa_law_1086 ?_
      refine r_add eLa_law_1087 ?_
      refine r_ialde (x := (J0 S (6 * (k : Int) + 3).toNat)) eLa_law_1088 hTS (by omega) (by omega) (by omega) (by rw [hJS]) ?_
      refine r_vir eLa_law_1089 rfl rfl rfl (cl_t h.csh (i := 0) rfl) rfl rfl ?_
      refine m_call_mono _ _ _ _ _ _ (fun v s q => ?_) (t_pulses h (hSi _) (hSi _) (hSi _))
      obtain ⟨r, T', J', P', L', z', w', rfl, rfl, hfr, hc⟩ := q
      obtain ⟨v2, s2, ⟨J3, -, -, hI3⟩, -⟩ := m_call_one _ _ _ _ _ hc
      have hM' := hI3.sh
      have hTS' : T' S = some (20, n) := (hfr S hSX).1.trans hS
      have hJS' : J' S = J0 S := (hfr S hSX).2
      show m_wp en 40 mLa_law 1092 [some (.ref S), some (.ref X), some (.ref M), some (.ref O), some (.int (m_i (6 * (k : Int)))), o5, o6] [(.int (m_i r))] (T', m_I J', P', L', z', w') Q
      refine r_aln eLa_law_1092 rfl ?_
      refine r_aln eLa_law_1093 rfl ?_
      refine r_il eLa_law_1094 rfl ?_
      refine r_con eLa_law_1096 ?_
      refine r_add eLa_law_1097 ?_
      refine r_ialde (x := (J0 S (6 * (k : Int) + 1).toNat)) eLa_law_1098 hTS' (by omega) (by omega) (by omega) (by rw [hJS']) ?_
      refine r_aln eLa_law_1099 rfl ?_
      refine r_il eLa_law_1100 rfl ?_
      refine r_con eLa_law_1102 ?_
      refine r_add eLa_law_1103 ?_
      refine r_ialde (x := (J0 S (6 * (k : Int) + 2).toNat)) eLa_law_1104 hTS' (by omega) (by omega) (by omega) (by rw [hJS']) ?_
      refine r_aln eLa_law_1105 rfl ?_
      refine r_il eLa_law_1106 rfl ?_
      refine r_con eLa_law_1108 ?_
      refine r_add eLa_law_1109 ?_
      refine r_ialde (x := (J0 S (6 * (k : Int) + 3).toNat)) eLa_law_1110 hTS' (by omega) (by omega) (by omega) (by rw [hJS']) ?_
      refine r_vir eLa_law_1111 rfl rfl rfl hM'.2.1 rfl rfl ?_
      refine m_call_mono _ _ _ _ _ _ (fun v s q => ?_) hc
      obtain ⟨J2, rfl, rfl, hI⟩ := q
      show m_wp en 40 mLa_law 1114 [some (.ref S), some (.ref X), some (.ref M), some (.ref O), some (.int (m_i (6 * (k : Int)))), o5, o6] [(.int (m_i r)), (.int (m_i r))] (T', m_I J2, P', L', z', w') Q
      refine r_ceqs (tgt := 1481) eLa_law_1114 rfl ?_
      exact hend T' J2 P' L' z' w' o5 o6 hI
    · -- 32
      refine r_tcase (v := 32) (tgt := 1119) eLa_law_40 c1 ⟨by decide, by decide⟩ ⟨by decide, by decide⟩ rfl rfl ?_
      refine r_aln eLa_law_1119 rfl ?_
      refine r_aln eLa_law_1120 rfl ?_
      refine r_il eLa_law_1121 rfl ?_
      refine r_con eLa_law_1123 ?_
      refine r_add eLa_law_1124 ?_
      refine r_ialde (x := (J0 S (6 * (k : Int) + 1).toNat)) eLa_law_1125 hTS (by omega) (by omega) (by omega) (by rw [hJS]) ?_
      refine r_aln eLa_law_1126 rfl ?_
      refine r_il eLa_law_1127 rfl ?_
      refine r_con eLa_law_1129 ?_
      refine r_add eLa_law_1130 ?_
      refine r_ialde (x := (J0 S (6 * (k : Int) + 2).toNat)) eLa_law_1131 hTS (by omega) (by omega) (by omega) (by rw [hJS]) ?_
      refine r_vir eLa_law_1132 rfl rfl rfl (cl_t h.csh (i := 0) rfl) rfl rfl ?_
      refine m_call_mono _ _ _ _ _ _ (fun v s q => ?_) (t_shortest h (hSi _) (hSi _))
      obtain ⟨r, T', J', P', L', z', w', rfl, rfl, hfr, hc⟩ := q
      obtain ⟨v2, s2, ⟨J3, -, -, hI3⟩, -⟩ := m_call_one _ _ _ _ _ hc
      have hM' := hI3.sh
      have hTS' : T' S = some (20, n) := (hfr S hSX).1.trans hS
      have hJS' : J' S = J0 S := (hfr S hSX).2
      show m_wp en 40 mLa_law 1135 [some (.ref S), some (.ref X), some (.ref M), some (.ref O), some (.int (m_i (6 * (k : Int)))), o5, o6] [(.int (m_i r))] (T', m_I J', P', L', z', w') Q
      refine r_aln eLa_law_1135 rfl ?_
      refine r_aln eLa_law_1136 rfl ?_
      refine r_il eLa_law_1137 rfl ?_
      refine r_con eLa_law_1139 ?_
      refine r_add eLa_law_1140 ?_
      refine r_ialde (x := (J0 S (6 * (k : Int) + 1).toNat)) eLa_law_1141 hTS' (by omega) (by omega) (by omega) (by rw [hJS']) ?_
      refine r_aln eLa_law_1142 rfl ?_
      refine r_il eLa_law_1143 rfl ?_
      refine r_con eLa_law_1145 ?_
      refine r_add eLa_law_1146 ?_
      refine r_ialde (x := (J0 S (6 * (k : Int) + 2).toNat)) eLa_law_1147 hTS' (by omega) (by omega) (by omega) (by rw [hJS']) ?_
      refine r_vir eLa_law_1148 rfl rfl rfl hM'.2.1 rfl rfl ?_
      refine m_call_mono _ _ _ _ _ _ (fun v s q => ?_) hc
      obtain ⟨J2, rfl, rfl, hI⟩ := q
      show m_wp en 40 mLa_law 1151 [some (.ref S), some (.ref X), some (.ref M), some (.ref O), some (.int (m_i (6 * (k : Int)))), o5, o6] [(.int (m_i r)), (.int (m_i r))] (T', m_I J2, P', L', z', w') Q
      refine r_ceqs (tgt := 1481) eLa_law_1151 rfl ?_
      exact hend T' J2 P' L' z' w' o5 o6 hI
    · -- 33
      refine r_tcase (v := 33) (tgt := 1156) eLa_law_40 c1 ⟨by decide, by decide⟩ ⟨by decide, by decide⟩ rfl rfl ?_
      refine r_aln eLa_law_1156 rfl ?_
      refine r_aln eLa_law_1157 rfl ?_
      refine r_il eLa_law_1158 rfl ?_
      refine r_con eLa_law_1160 ?_
      refine r_add eLa_law_1161 ?_
      refine r_ialde (x := (J0 S (6 * (k : Int) + 1).toNat)) eLa_law_1162 hTS (by omega) (by omega) (by omega) (by rw [hJS]) ?_
      refine r_vir eLa_law_1163 rfl rfl rfl (cl_t h.csh (i := 0) rfl) rfl rfl ?_
      refine m_call_mono _ _ _ _ _ _ (fun v s q => ?_) (t_level h (hSi _))
      obtain ⟨r, T', J', P', L', z', w', rfl, rfl, hfr, hc⟩ := q
      obtain ⟨v2, s2, ⟨J3, -, -, hI3⟩, -⟩ := m_call_one _ _ _ _ _ hc
      have hM' := hI3.sh
      have hTS' : T' S = some (20, n) := (hfr S hSX).1.trans hS
      have hJS' : J' S = J0 S := (hfr S hSX).2
      show m_wp en 40 mLa_law 1166 [some (.ref S), some (.ref X), some (.ref M), some (.ref O), some (.int (m_i (6 * (k : Int)))), o5, o6] [(.int (m_i r))] (T', m_I J', P', L', z', w') Q
      refine r_aln eLa_law_1166 rfl ?_
      refine r_aln eLa_law_1167 rfl ?_
      refine r_il eLa_law_1168 rfl ?_
      refine r_con eLa_law_1170 ?_
      refine r_add eLa_law_1171 ?_
      refine r_ialde (x := (J0 S (6 * (k : Int) + 1).toNat)) eLa_law_1172 hTS' (by omega) (by omega) (by omega) (by rw [hJS']) ?_
      refine r_vir eLa_law_1173 rfl rfl rfl hM'.2.1 rfl rfl ?_
      refine m_call_mono _ _ _ _ _ _ (fun v s q => ?_) hc
      obtain ⟨J2, rfl, rfl, hI⟩ := q
      show m_wp en 40 mLa_law 1176 [some (.ref S), some (.ref X), some (.ref M), some (.ref O), some (.int (m_i (6 * (k : Int)))), o5, o6] [(.int (m_i r)), (.int (m_i r))] (T', m_I J2, P', L', z', w') Q
      refine r_ceqs (tgt := 1481) eLa_law_1176 rfl ?_
      exact hend T' J2 P' L' z' w' o5 o6 hI
    · -- 34
      refine r_tcase (v := 34) (tgt := 1181) eLa_law_40 c1 ⟨by decide, by decide⟩ ⟨by decide, by decide⟩ rfl rfl ?_
      refine r_aln eLa_law_1181 rfl ?_
      refine r_aln eLa_law_1182 rfl ?_
      refine r_il eLa_law_1183 rfl ?_
      refine r_con eLa_law_1185 ?_
      refine r_add eLa_law_1186 ?_
      refine r_ialde (x := (J0 S (6 * (k : Int) + 1).toNat)) eLa_law_1187 hTS (by omega) (by omega) (by omega) (by rw [hJS]) ?_
      refine r_aln eLa_law_1188 rfl ?_
      refine r_il eLa_law_1189 rfl ?_
      refine r_con eLa_law_1191 ?_
      refine r_add eLa_law_1192 ?_
      refine r_ialde (x := (J0 S (6 * (k : Int) + 2).toNat)) eLa_law_1193 hTS (by omega) (by omega) (by omega) (by rw [hJS]) ?_
      refine r_vir eLa_law_1194 rfl rfl rfl (cl_t h.csh (i := 0) rfl) rfl rfl ?_
      refine m_call_mono _ _ _ _ _ _ (fun v s q => ?_) (t_ifWind h (hSi _) (hSi _))
      obtain ⟨r, T', J', P', L', z', w', rfl, rfl, hfr, hc⟩ := q
      obtain ⟨v2, s2, ⟨J3, -, -, hI3⟩, -⟩ := m_call_one _ _ _ _ _ hc
      have hM' := hI3.sh
      have hTS' : T' S = some (20, n) := (hfr S hSX).1.trans hS
      have hJS' : J' S = J0 S := (hfr S hSX).2
      show m_wp en 40 mLa_law 1197 [some (.ref S), some (.ref X), some (.ref M), some (.ref O), some (.int (m_i (6 * (k : Int)))), o5, o6] [(.int (m_i r))] (T', m_I J', P', L', z', w') Q
      refine r_aln eLa_law_1197 rfl ?_
      refine r_aln eLa_law_1198 rfl ?_
      refine r_il eLa_law_1199 rfl ?_
      refine r_con eLa_law_1201 ?_
      refine r_add eLa_law_1202 ?_
      refine r_ialde (x := (J0 S (6 * (k : Int) + 1).toNat)) eLa_law_1203 hTS' (by omega) (by omega) (by omega) (by rw [hJS']) ?_
      refine r_aln eLa_law_1204 rfl ?_
      refine r_il eLa_law_1205 rfl ?_
      refine r_con eLa_law_1207 ?_
      refine r_add eLa_law_1208 ?_
      refine r_ialde (x := (J0 S (6 * (k : Int) + 2).toNat)) eLa_law_1209 hTS' (by omega) (by omega) (by omega) (by rw [hJS']) ?_
      refine r_vir eLa_law_1210 rfl rfl rfl hM'.2.1 rfl rfl ?_
      refine m_call_mono _ _ _ _ _ _ (fun v s q => ?_) hc
      obtain ⟨J2, rfl, rfl, hI⟩ := q
      show m_wp en 40 mLa_law 1213 [some (.ref S), some (.ref X), some (.ref M), some (.ref O), some (.int (m_i (6 * (k : Int)))), o5, o6] [(.int (m_i r)), (.int (m_i r))] (T', m_I J2, P', L', z', w') Q
      refine r_ceqs (tgt := 1481) eLa_law_1213 rfl ?_
      exact hend T' J2 P' L' z' w' o5 o6 hI
    · -- 35
      refine r_tcase (v := 35) (tgt := 1218) eLa_law_40 c1 ⟨by decide, by decide⟩ ⟨by decide, by decide⟩ rfl rfl ?_
      refine r_aln eLa_law_1218 rfl ?_
      refine r_vir eLa_law_1219 rfl rfl rfl (cl_t h.csh (i := 0) rfl) rfl rfl ?_
      refine m_call_mono _ _ _ _ _ _ (fun v s q => ?_) (t_nearest h)
      obtain ⟨r, T', J', P', L', z', w', rfl, rfl, hfr, hc⟩ := q
      obtain ⟨v2, s2, ⟨J3, -, -, hI3⟩, -⟩ := m_call_one _ _ _ _ _ hc
      have hM' := hI3.sh
      show m_wp en 40 mLa_law 1222 [some (.ref S), some (.ref X), some (.ref M), some (.ref O), some (.int (m_i (6 * (k : Int)))), o5, o6] [(.int (m_i r))] (T', m_I J', P', L', z', w') Q
      refine r_aln eLa_law_1222 rfl ?_
      refine r_vir eLa_law_1223 rfl rfl rfl hM'.2.1 rfl rfl ?_
      refine m_call_mono _ _ _ _ _ _ (fun v s q => ?_) hc
      obtain ⟨J2, rfl, rfl, hI⟩ := q
      show m_wp en 40 mLa_law 1226 [some (.ref S), some (.ref X), some (.ref M), some (.ref O), some (.int (m_i (6 * (k : Int)))), o5, o6] [(.int (m_i r)), (.int (m_i r))] (T', m_I J2, P', L', z', w') Q
      refine r_ceqs (tgt := 1481) eLa_law_1226 rfl ?_
      exact hend T' J2 P' L' z' w' o5 o6 hI
    · -- 36
      refine r_tcase (v := 36) (tgt := 1231) eLa_law_40 c1 ⟨by decide, by decide⟩ ⟨by decide, by decide⟩ rfl rfl ?_
      refine r_aln eLa_law_1231 rfl ?_
      refine r_aln eLa_law_1232 rfl ?_
      refine r_il eLa_law_1233 rfl ?_
      refine r_con eLa_law_1235 ?_
      refine r_add eLa_law_1236 ?_
      refine r_ialde (x := (J0 S (6 * (k : Int) + 1).toNat)) eLa_law_1237 hTS (by omega) (by omega) (by omega) (by rw [hJS]) ?_
      refine r_vir eLa_law_1238 rfl rfl rfl (cl_t h.csh (i := 0) rfl) rfl rfl ?_
      refine m_call_mono _ _ _ _ _ _ (fun v s q => ?_) (t_least h (hSi _))
      obtain ⟨r, T', J', P', L', z', w', rfl, rfl, hfr, hc⟩ := q
      obtain ⟨v2, s2, ⟨J3, -, -, hI3⟩, -⟩ := m_call_one _ _ _ _ _ hc
      have hM' := hI3.sh
      have hTS' : T' S = some (20, n) := (hfr S hSX).1.trans hS
      have hJS' : J' S = J0 S := (hfr S hSX).2
      show m_wp en 40 mLa_law 1241 [some (.ref S), some (.ref X), some (.ref M), some (.ref O), some (.int (m_i (6 * (k : Int)))), o5, o6] [(.int (m_i r))] (T', m_I J', P', L', z', w') Q
      refine r_aln eLa_law_1241 rfl ?_
      refine r_aln eLa_law_1242 rfl ?_
      refine r_il eLa_law_1243 rfl ?_
      refine r_con eLa_law_1245 ?_
      refine r_add eLa_law_1246 ?_
      refine r_ialde (x := (J0 S (6 * (k : Int) + 1).toNat)) eLa_law_1247 hTS' (by omega) (by omega) (by omega) (by rw [hJS']) ?_
      refine r_vir eLa_law_1248 rfl rfl rfl hM'.2.1 rfl rfl ?_
      refine m_call_mono _ _ _ _ _ _ (fun v s q => ?_) hc
      obtain ⟨J2, rfl, rfl, hI⟩ := q
      show m_wp en 40 mLa_law 1251 [some (.ref S), some (.ref X), some (.ref M), some (.ref O), some (.int (m_i (6 * (k : Int)))), o5, o6] [(.int (m_i r)), (.int (m_i r))] (T', m_I J2, P', L', z', w') Q
      refine r_ceqs (tgt := 1481) eLa_law_1251 rfl ?_
      exact hend T' J2 P' L' z' w' o5 o6 hI
    · -- 37
      refine r_tcase (v := 37) (tgt := 1256) eLa_law_40 c1 ⟨by decide, by decide⟩ ⟨by decide, by decide⟩ rfl rfl ?_
      refine r_aln eLa_law_1256 rfl ?_
      refine r_aln eLa_law_1257 rfl ?_
      refine r_il eLa_law_1258 rfl ?_
      refine r_con eLa_law_1260 ?_
      refine r_add eLa_law_1261 ?_
      refine r_ialde (x := (J0 S (6 * (k : Int) + 1).toNat)) eLa_law_1262 hTS (by omega) (by omega) (by omega) (by rw [hJS]) ?_
      refine r_vir eLa_law_1263 rfl rfl rfl (cl_t h.csh (i := 0) rfl) rfl rfl ?_
      refine m_call_mono _ _ _ _ _ _ (fun v s q => ?_) (t_steadiest h (hSi _))
      obtain ⟨r, T', J', P', L', z', w', rfl, rfl, hfr, hc⟩ := q
      obtain ⟨v2, s2, ⟨J3, -, -, hI3⟩, -⟩ := m_call_one _ _ _ _ _ hc
      have hM' := hI3.sh
      have hTS' : T' S = some (20, n) := (hfr S hSX).1.trans hS
      have hJS' : J' S = J0 S := (hfr S hSX).2
      show m_wp en 40 mLa_law 1266 [some (.ref S), some (.ref X), some (.ref M), some (.ref O), some (.int (m_i (6 * (k : Int)))), o5, o6] [(.int (m_i r))] (T', m_I J', P', L', z', w') Q
      refine r_aln eLa_law_1266 rfl ?_
      refine r_aln eLa_law_1267 rfl ?_
      refine r_il eLa_law_1268 rfl ?_
      refine r_con eLa_law_1270 ?_
      refine r_add eLa_law_1271 ?_
      refine r_ialde (x := (J0 S (6 * (k : Int) + 1).toNat)) eLa_law_1272 hTS' (by omega) (by omega) (by omega) (by rw [hJS']) ?_
      refine r_vir eLa_law_1273 rfl rfl rfl hM'.2.1 rfl rfl ?_
      refine m_call_mono _ _ _ _ _ _ (fun v s q => ?_) hc
      obtain ⟨J2, rfl, rfl, hI⟩ := q
      show m_wp en 40 mLa_law 1276 [some (.ref S), some (.ref X), some (.ref M), some (.ref O), some (.int (m_i (6 * (k : Int)))), o5, o6] [(.int (m_i r)), (.int (m_i r))] (T', m_I J2, P', L', z', w') Q
      refine r_ceqs (tgt := 1481) eLa_law_1276 rfl ?_
      exact hend T' J2 P' L' z' w' o5 o6 hI
    · -- 38
      refine r_tcase (v := 38) (tgt := 1281) eLa_law_40 c1 ⟨by decide, by decide⟩ ⟨by decide, by decide⟩ rfl rfl ?_
      refine r_aln eLa_law_1281 rfl ?_
      refine r_aln eLa_law_1282 rfl ?_
      refine r_il eLa_law_1283 rfl ?_
      refine r_con eLa_law_1285 ?_
      refine r_add eLa_law_1286 ?_
      refine r_ialde (x := (J0 S (6 * (k : Int) + 1).toNat)) eLa_law_1287 hTS (by omega) (by omega) (by omega) (by rw [hJS]) ?_
      refine r_aln eLa_law_1288 rfl ?_
      refine r_il eLa_law_1289 rfl ?_
      refine r_con eLa_law_1291 ?_
      refine r_add eLa_law_1292 ?_
      refine r_ialde (x := (J0 S (6 * (k : Int) + 2).toNat)) eLa_law_1293 hTS (by omega) (by omega) (by omega) (by rw [hJS]) ?_
      refine r_vir eLa_law_1294 rfl rfl rfl (cl_t h.csh (i := 0) rfl) rfl rfl ?_
      refine m_call_mono _ _ _ _ _ _ (fun v s q => ?_) (t_along h (hSi _) (hSi _))
      obtain ⟨r, T', J', P', L', z', w', rfl, rfl, hfr, hc⟩ := q
      obtain ⟨v2, s2, ⟨J3, -, -, hI3⟩, -⟩ := m_call_one _ _ _ _ _ hc
      have hM' := hI3.sh
      have hTS' : T' S = some (20, n) := (hfr S hSX).1.trans hS
      have hJS' : J' S = J0 S := (hfr S hSX).2
      show m_wp en 40 mLa_law 1297 [some (.ref S), some (.ref X), some (.ref M), some (.ref O), some (.int (m_i (6 * (k : Int)))), o5, o6] [(.int (m_i r))] (T', m_I J', P', L', z', w') Q
      refine r_aln eLa_law_1297 rfl ?_
      refine r_aln eLa_law_1298 rfl ?_
      refine r_il eLa_law_1299 rfl ?_
      refine r_con eLa_law_1301 ?_
      refine r_add eLa_law_1302 ?_
      refine r_ialde (x := (J0 S (6 * (k : Int) + 1).toNat)) eLa_law_1303 hTS' (by omega) (by omega) (by omega) (by rw [hJS']) ?_
      refine r_aln eLa_law_1304 rfl ?_
      refine r_il eLa_law_1305 rfl ?_
      refine r_con eLa_law_1307 ?_
      refine r_add eLa_law_1308 ?_
      refine r_ialde (x := (J0 S (6 * (k : Int) + 2).toNat)) eLa_law_1309 hTS' (by omega) (by omega) (by omega) (by rw [hJS']) ?_
      refine r_vir eLa_law_1310 rfl rfl rfl hM'.2.1 rfl rfl ?_
      refine m_call_mono _ _ _ _ _ _ (fun v s q => ?_) hc
      obtain ⟨J2, rfl, rfl, hI⟩ := q
      show m_wp en 40 mLa_law 1313 [some (.ref S), some (.ref X), some (.ref M), some (.ref O), some (.int (m_i (6 * (k : Int)))), o5, o6] [(.int (m_i r)), (.int (m_i r))] (T', m_I J2, P', L', z', w') Q
      refine r_ceqs (tgt := 1481) eLa_law_1313 rfl ?_
      exact hend T' J2 P' L' z' w' o5 o6 hI
    · -- 39
      refine r_tcase (v := 39) (tgt := 1318) eLa_law_40 c1 ⟨by decide, by decide⟩ ⟨by decide, by decide⟩ rfl rfl ?_
      refine r_aln eLa_law_1318 rfl ?_
      refine r_aln eLa_law_1319 rfl ?_
      refine r_il eLa_law_1320 rfl ?_
      refine r_con eLa_law_1322 ?_
      refine r_add eLa_law_1323 ?_
      refine r_ialde (x := (J0 S (6 * (k : Int) + 1).toNat)) eLa_law_1324 hTS (by omega) (by omega) (by omega) (by rw [hJS]) ?_
      refine r_aln eLa_law_1325 rfl ?_
      refine r_il eLa_law_1326 rfl ?_
      refine r_con eLa_law_1328 ?_
      refine r_add eLa_law_1329 ?_
      refine r_ialde (x := (J0 S (6 * (k : Int) + 2).toNat)) eLa_law_1330 hTS (by omega) (by omega) (by omega) (by rw [hJS]) ?_
      refine r_vir eLa_law_1331 rfl rfl rfl (cl_t h.csh (i := 0) rfl) rfl rfl ?_
      refine m_call_mono _ _ _ _ _ _ (fun v s q => ?_) (t_log h (hSi _) (hSi _))
      obtain ⟨r, T', J', P', L', z', w', rfl, rfl, hfr, hc⟩ := q
      obtain ⟨v2, s2, ⟨J3, -, -, hI3⟩, -⟩ := m_call_one _ _ _ _ _ hc
      have hM' := hI3.sh
      have hTS' : T' S = some (20, n) := (hfr S hSX).1.trans hS
      have hJS' : J' S = J0 S := (hfr S hSX).2
      show m_wp en 40 mLa_law 1334 [some (.ref S), some (.ref X), some (.ref M), some (.ref O), some (.int (m_i (6 * (k : Int)))), o5, o6] [(.int (m_i r))] (T', m_I J', P', L', z', w') Q
      refine r_aln eLa_law_1334 rfl ?_
      refine r_aln eLa_law_1335 rfl ?_
      refine r_il eLa_law_1336 rfl ?_
      refine r_con eLa_law_1338 ?_
      refine r_add eLa_law_1339 ?_
      refine r_ialde (x := (J0 S (6 * (k : Int) + 1).toNat)) eLa_law_1340 hTS' (by omega) (by omega) (by omega) (by rw [hJS']) ?_
      refine r_aln eLa_law_1341 rfl ?_
      refine r_il eLa_law_1342 rfl ?_
      refine r_con eLa_law_1344 ?_
      refine r_add eLa_law_1345 ?_
      refine r_ialde (x := (J0 S (6 * (k : Int) + 2).toNat)) eLa_law_1346 hTS' (by omega) (by omega) (by omega) (by rw [hJS']) ?_
      refine r_vir eLa_law_1347 rfl rfl rfl hM'.2.1 rfl rfl ?_
      refine m_call_mono _ _ _ _ _ _ (fun v s q => ?_) hc
      obtain ⟨J2, rfl, rfl, hI⟩ := q
      show m_wp en 40 mLa_law 1350 [some (.ref S), some (.ref X), some (.ref M), some (.ref O), some (.int (m_i (6 * (k : Int)))), o5, o6] [(.int (m_i r)), (.int (m_i r))] (T', m_I J2, P', L', z', w') Q
      refine r_ceqs (tgt := 1481) eLa_law_1350 rfl ?_
      exact hend T' J2 P' L' z' w' o5 o6 hI
    · -- 40
      refine r_tcase (v := 40) (tgt := 1355) eLa_law_40 c1 ⟨by decide, by decide⟩ ⟨by decide, by decide⟩ rfl rfl ?_
      refine r_aln eLa_law_1355 rfl ?_
      refine r_vir eLa_law_1356 rfl rfl rfl (cl_t h.csh (i := 0) rfl) rfl rfl ?_
      refine m_call_mono _ _ _ _ _ _ (fun v s q => ?_) (t_again h)
      obtain ⟨r, T', J', P', L', z', w', rfl, rfl, hfr, hc⟩ := q
      obtain ⟨v2, s2, ⟨J3, -, -, hI3⟩, -⟩ := m_call_one _ _ _ _ _ hc
      have hM' := hI3.sh
      show m_wp en 40 mLa_law 1359 [some (.ref S), some (.ref X), some (.ref M), some (.ref O), some (.int (m_i (6 * (k : Int)))), o5, o6] [(.int (m_i r))] (T', m_I J', P', L', z', w') Q
      refine r_aln eLa_law_1359 rfl ?_
      refine r_vir eLa_law_1360 rfl rfl rfl hM'.2.1 rfl rfl ?_
      refine m_call_mono _ _ _ _ _ _ (fun v s q => ?_) hc
      obtain ⟨J2, rfl, rfl, hI⟩ := q
      show m_wp en 40 mLa_law 1363 [some (.ref S), some (.ref X), some (.ref M), some (.ref O), some (.int (m_i (6 * (k : Int)))), o5, o6] [(.int (m_i r)), (.int (m_i r))] (T', m_I J2, P', L', z', w') Q
      refine r_ceqs (tgt := 1481) eLa_law_1363 rfl ?_
      exact hend T' J2 P' L' z' w' o5 o6 hI
    · -- 41
      refine r_tcase (v := 41) (tgt := 1368) eLa_law_40 c1 ⟨by decide, by decide⟩ ⟨by decide, by decide⟩ rfl rfl ?_
      refine r_aln eLa_law_1368 rfl ?_
      refine r_aln eLa_law_1369 rfl ?_
      refine r_il eLa_law_1370 rfl ?_
      refine r_con eLa_law_1372 ?_
      refine r_add eLa_law_1373 ?_
      refine r_ialde (x := (J0 S (6 * (k : Int) + 1).toNat)) eLa_law_1374 hTS (by omega) (by omega) (by omega) (by rw [hJS]) ?_
      refine r_aln eLa_law_1375 rfl ?_
      refine r_il eLa_law_1376 rfl ?_
      refine r_con eLa_law_1378 ?_
      refine r_add eLa_law_1379 ?_
      refine r_ialde (x := (J0 S (6 * (k : Int) + 2).toNat)) eLa_law_1380 hTS (by omega) (by omega) (by omega) (by rw [hJS]) ?_
      refine r_aln eLa_law_1381 rfl ?_
      refine r_il eLa_law_1382 rfl ?_
      refine r_con eLa_law_1384 ?_
      refine r_add eLa_law_1385 ?_
      refine r_ialde (x := (J0 S (6 * (k : Int) + 3).toNat)) eLa_law_1386 hTS (by omega) (by omega) (by omega) (by rw [hJS]) ?_
      refine r_vir eLa_law_1387 rfl rfl rfl (cl_t h.csh (i := 0) rfl) rfl rfl ?_
      refine m_call_mono _ _ _ _ _ _ (fun v s q => ?_) (t_chance h (hSi _) (hSi _) (hSi _))
      obtain ⟨r, T', J', P', L', z', w', rfl, rfl, hfr, hc⟩ := q
      obtain ⟨v2, s2, ⟨J3, -, -, hI3⟩, -⟩ := m_call_one _ _ _ _ _ hc
      have hM' := hI3.sh
      have hTS' : T' S = some (20, n) := (hfr S hSX).1.trans hS
      have hJS' : J' S = J0 S := (hfr S hSX).2
      show m_wp en 40 mLa_law 1390 [some (.ref S), some (.ref X), some (.ref M), some (.ref O), some (.int (m_i (6 * (k : Int)))), o5, o6] [(.int (m_i r))] (T', m_I J', P', L', z', w') Q
      refine r_aln eLa_law_1390 rfl ?_
      refine r_aln eLa_law_1391 rfl ?_
      refine r_il eLa_law_1392 rfl ?_
      refine r_con eLa_law_1394 ?_
      refine r_add eLa_law_1395 ?_
      refine r_ialde (x := (J0 S (6 * (k : Int) + 1).toNat)) eLa_law_1396 hTS' (by omega) (by omega) (by omega) (by rw [hJS']) ?_
      refine r_aln eLa_law_1397 rfl ?_
      refine r_il eLa_law_1398 rfl ?_
      refine r_con eLa_law_1400 ?_
      refine r_add eLa_law_1401 ?_
      refine r_ialde (x := (J0 S (6 * (k : Int) + 2).toNat)) eLa_law_1402 hTS' (by omega) (by omega) (by omega) (by rw [hJS']) ?_
      refine r_aln eLa_law_1403 rfl ?_
      refine r_il eLa_law_1404 rfl ?_
      refine r_con eLa_law_1406 ?_
      refine r_add eLa_law_1407 ?_
      refine r_ialde (x := (J0 S (6 * (k : Int) + 3).toNat)) eLa_law_1408 hTS' (by omega) (by omega) (by omega) (by rw [hJS']) ?_
      refine r_vir eLa_law_1409 rfl rfl rfl hM'.2.1 rfl rfl ?_
      refine m_call_mono _ _ _ _ _ _ (fun v s q => ?_) hc
      obtain ⟨J2, rfl, rfl, hI⟩ := q
      show m_wp en 40 mLa_law 1412 [some (.ref S), some (.ref X), some (.ref M), some (.ref O), some (.int (m_i (6 * (k : Int)))), o5, o6] [(.int (m_i r)), (.int (m_i r))] (T', m_I J2, P', L', z', w') Q
      refine r_ceqs (tgt := 1481) eLa_law_1412 rfl ?_
      exact hend T' J2 P' L' z' w' o5 o6 hI
    · -- 42
      refine r_tcase (v := 42) (tgt := 1417) eLa_law_40 c1 ⟨by decide, by decide⟩ ⟨by decide, by decide⟩ rfl rfl ?_
      refine r_aln eLa_law_1417 rfl ?_
      refine r_vir eLa_law_1418 rfl rfl rfl (cl_t h.csh (i := 0) rfl) rfl rfl ?_
      refine m_call_mono _ _ _ _ _ _ (fun v s q => ?_) (t_undo h)
      obtain ⟨r, T', J', P', L', z', w', rfl, rfl, hfr, hc⟩ := q
      obtain ⟨v2, s2, ⟨J3, -, -, hI3⟩, -⟩ := m_call_one _ _ _ _ _ hc
      have hM' := hI3.sh
      show m_wp en 40 mLa_law 1421 [some (.ref S), some (.ref X), some (.ref M), some (.ref O), some (.int (m_i (6 * (k : Int)))), o5, o6] [(.int (m_i r))] (T', m_I J', P', L', z', w') Q
      refine r_aln eLa_law_1421 rfl ?_
      refine r_vir eLa_law_1422 rfl rfl rfl hM'.2.1 rfl rfl ?_
      refine m_call_mono _ _ _ _ _ _ (fun v s q => ?_) hc
      obtain ⟨J2, rfl, rfl, hI⟩ := q
      show m_wp en 40 mLa_law 1425 [some (.ref S), some (.ref X), some (.ref M), some (.ref O), some (.int (m_i (6 * (k : Int)))), o5, o6] [(.int (m_i r)), (.int (m_i r))] (T', m_I J2, P', L', z', w') Q
      refine r_ceqs (tgt := 1481) eLa_law_1425 rfl ?_
      exact hend T' J2 P' L' z' w' o5 o6 hI
    · -- 43
      refine r_tcase (v := 43) (tgt := 1430) eLa_law_40 c1 ⟨by decide, by decide⟩ ⟨by decide, by decide⟩ rfl rfl ?_
      refine r_aln eLa_law_1430 rfl ?_
      refine r_vir eLa_law_1431 rfl rfl rfl (cl_t h.csh (i := 0) rfl) rfl rfl ?_
      refine m_call_mono _ _ _ _ _ _ (fun v s q => ?_) (t_keep h)
      obtain ⟨r, T', J', P', L', z', w', rfl, rfl, hfr, hc⟩ := q
      obtain ⟨v2, s2, ⟨J3, -, -, hI3⟩, -⟩ := m_call_one _ _ _ _ _ hc
      have hM' := hI3.sh
      show m_wp en 40 mLa_law 1434 [some (.ref S), some (.ref X), some (.ref M), some (.ref O), some (.int (m_i (6 * (k : Int)))), o5, o6] [(.int (m_i r))] (T', m_I J', P', L', z', w') Q
      refine r_aln eLa_law_1434 rfl ?_
      refine r_vir eLa_law_1435 rfl rfl rfl hM'.2.1 rfl rfl ?_
      refine m_call_mono _ _ _ _ _ _ (fun v s q => ?_) hc
      obtain ⟨J2, rfl, rfl, hI⟩ := q
      show m_wp en 40 mLa_law 1438 [some (.ref S), some (.ref X), some (.ref M), some (.ref O), some (.int (m_i (6 * (k : Int)))), o5, o6] [(.int (m_i r)), (.int (m_i r))] (T', m_I J2, P', L', z', w') Q
      refine r_ceqs (tgt := 1481) eLa_law_1438 rfl ?_
      exact hend T' J2 P' L' z' w' o5 o6 hI
    · -- 44
      refine r_tcase (v := 44) (tgt := 1443) eLa_law_40 c1 ⟨by decide, by decide⟩ ⟨by decide, by decide⟩ rfl rfl ?_
      refine r_aln eLa_law_1443 rfl ?_
      refine r_vir eLa_law_1444 rfl rfl rfl (cl_t h.csh (i := 0) rfl) rfl rfl ?_
      refine m_call_mono _ _ _ _ _ _ (fun v s q => ?_) (t_back h)
      obtain ⟨r, T', J', P', L', z', w', rfl, rfl, hfr, hc⟩ := q
      obtain ⟨v2, s2, ⟨J3, -, -, hI3⟩, -⟩ := m_call_one _ _ _ _ _ hc
      have hM' := hI3.sh
      show m_wp en 40 mLa_law 1447 [some (.ref S), some (.ref X), some (.ref M), some (.ref O), some (.int (m_i (6 * (k : Int)))), o5, o6] [(.int (m_i r))] (T', m_I J', P', L', z', w') Q
      refine r_aln eLa_law_1447 rfl ?_
      refine r_vir eLa_law_1448 rfl rfl rfl hM'.2.1 rfl rfl ?_
      refine m_call_mono _ _ _ _ _ _ (fun v s q => ?_) hc
      obtain ⟨J2, rfl, rfl, hI⟩ := q
      show m_wp en 40 mLa_law 1451 [some (.ref S), some (.ref X), some (.ref M), some (.ref O), some (.int (m_i (6 * (k : Int)))), o5, o6] [(.int (m_i r)), (.int (m_i r))] (T', m_I J2, P', L', z', w') Q
      refine r_ceqs (tgt := 1481) eLa_law_1451 rfl ?_
      exact hend T' J2 P' L' z' w' o5 o6 hI
    · -- 45
      refine r_tcase (v := 45) (tgt := 1456) eLa_law_40 c1 ⟨by decide, by decide⟩ ⟨by decide, by decide⟩ rfl rfl ?_
      refine r_aln eLa_law_1456 rfl ?_
      refine r_aln eLa_law_1457 rfl ?_
      refine r_il eLa_law_1458 rfl ?_
      refine r_con eLa_law_1460 ?_
      refine r_add eLa_law_1461 ?_
      refine r_ialde (x := (J0 S (6 * (k : Int) + 1).toNat)) eLa_law_1462 hTS (by omega) (by omega) (by omega) (by rw [hJS]) ?_
      refine r_vir eLa_law_1463 rfl rfl rfl (cl_t h.csh (i := 0) rfl) rfl rfl ?_
      refine m_call_mono _ _ _ _ _ _ (fun v s q => ?_) (t_count h (hSi _))
      obtain ⟨r, T', J', P', L', z', w', rfl, rfl, hfr, hc⟩ := q
      obtain ⟨v2, s2, ⟨J3, -, -, hI3⟩, -⟩ := m_call_one _ _ _ _ _ hc
      have hM' := hI3.sh
      have hTS' : T' S = some (20, n) := (hfr S hSX).1.trans hS
      have hJS' : J' S = J0 S := (hfr S hSX).2
      show m_wp en 40 mLa_law 1466 [some (.ref S), some (.ref X), some (.ref M), some (.ref O), some (.int (m_i (6 * (k : Int)))), o5, o6] [(.int (m_i r))] (T', m_I J', P', L', z', w') Q
      refine r_aln eLa_law_1466 rfl ?_
      refine r_aln eLa_law_1467 rfl ?_
      refine r_il eLa_law_1468 rfl ?_
      refine r_con eLa_law_1470 ?_
      refine r_add eLa_law_1471 ?_
      refine r_ialde (x := (J0 S (6 * (k : Int) + 1).toNat)) eLa_law_1472 hTS' (by omega) (by omega) (by omega) (by rw [hJS']) ?_
      refine r_vir eLa_law_1473 rfl rfl rfl hM'.2.1 rfl rfl ?_
      refine m_call_mono _ _ _ _ _ _ (fun v s q => ?_) hc
      obtain ⟨J2, rfl, rfl, hI⟩ := q
      show m_wp en 40 mLa_law 1476 [some (.ref S), some (.ref X), some (.ref M), some (.ref O), some (.int (m_i (6 * (k : Int)))), o5, o6] [(.int (m_i r)), (.int (m_i r))] (T', m_I J2, P', L', z', w') Q
      refine r_ceqs (tgt := 1481) eLa_law_1476 rfl ?_
      exact hend T' J2 P' L' z' w' o5 o6 hI
    · -- no such call
      refine r_tdef (tgt := 1481) eLa_law_40 c1 (m_and_in _ _) rfl ?_
      exact hend T J P L z w o5 o6 (h.kk (Nat.le_succ k))
end LWB
