section GO
variable {h : ix_H} {tx : Nat → Nat} {n p f o : Nat} {fp : Int32}
theorem gx_nk_sk {lo H : Nat} (hp : p ≤ n) : gx_nk tx n lo H (gx_sk tx n p) = gx_nk tx n lo H p := by unfold gx_nk; rw [gx_sk_sk hp]
theorem gx_nv_sk (hp : p ≤ n) : gx_nv tx n (gx_sk tx n p) = gx_nv tx n p := by unfold gx_nv; rw [gx_sk_sk hp]
theorem gx_ne_sk (hp : p ≤ n) : gx_ne tx n (gx_sk tx n p) = gx_ne tx n p := by unfold gx_ne; rw [gx_sk_sk hp]
theorem gE_t1 {c : Nat} {st : Nat → Nat → Nat} {s : Nat} (hs : gx_sk tx n s = s) (hw : gx_is tx s (gx_lt tx n s) (gx_W 2)) (hc : c < 60) (ws : gx_ws st) (hk : gx_nk tx n 1 41 (gx_lt tx n s) ≠ 0) : gE tx n c st s (gx_nk tx n 1 41 (gx_lt tx n s)) (gx_sk tx n (gx_lt tx n s)) := by
  refine gE_open (fun h S => ?_)
  refine gD_go hs (by decide) hw hc ws (fun z => absurd z (by decide)) (fun z => absurd z (by decide)) S (fun h1 F1 S1 => ?_)
  obtain ⟨r1, c7, ms⟩ := S1
  refine w_il (j := 51) rfl rfl rfl ?_
  refine w_swN (t := 164) rfl (by decide) (by omega) rfl ?_
  refine w_al (j := 165) rfl rfl rfl ?_
  refine w_il (j := 166) rfl rfl rfl ?_
  refine w_ic (n := 2) (j := 167) rfl rfl ?_
  refine w_neN (j := 168) rfl rfl (by omega) (by omega) (fun c => absurd c (fun z => z rfl)) (fun _ => ?_)
  refine w_ic (n := 1) (j := 169) rfl rfl ?_
  refine w_go rfl ?_
  refine w_il (j := 172) rfl rfl rfl ?_
  refine w_ic (n := 2) (j := 173) rfl rfl ?_
  refine w_neN (j := 174) rfl rfl (by omega) (by omega) (fun c => absurd c (fun z => z rfl)) (fun _ => ?_)
  refine w_bi (j := 175) (a := nI 40) rfl rfl (by decide) ?_
  refine w_go rfl ?_
  refine w_cvPI (j := 178) rfl rfl rfl rfl (by first | assumption | rfl) rfl rfl (sp_165 (lo := 1) (H := 41) (by decide) (px_hiN (a := 40) (by decide)) (by decide) r1) rfl ?_
  rintro v h2 ⟨q1, q2, q3⟩
  rw [if_neg hk] at q1 q3
  have r5 := q3.2.2.2.2.1
  have f3 := q3.2.2.2.2.2.1
  refine w_is (j := 179) rfl rfl rfl ?_
  refine w_al (j := 180) rfl rfl rfl ?_
  first | refine w_gr (j := 181) rfl rfl (by first | assumption | rfl) (by first | assumption | rfl) rfl ?_ | refine w_gi (j := 181) rfl rfl (by first | assumption | rfl) (by first | assumption | rfl) rfl r5 ?_
  refine w_neM (j := 182) rfl rfl (by omega) (fun _ => ?_) (fun c => absurd c (fun c => by omega))
  refine px_mono (mq_188 (by decide) hk q3) (fun r q => gE_px ?_ q)
  exact F1.tr q2.gF
theorem gD_t {c : Nat} {st : Nat → Nat → Nat} {s : Nat} (hs : gx_sk tx n s = s) (hw : gx_is tx s (gx_lt tx n s) (gx_W 2)) (hc : c < 60) (ws : gx_ws st) (hk : gx_nk tx n 1 41 (gx_lt tx n s) = 0) : gD tx n c st s (gx_u st 0 2 (gx_nv tx n (gx_lt tx n s))) (gx_ne tx n (gx_lt tx n s)) := by
  intro h Q S H
  refine gD_go hs (by decide) hw hc ws (fun z => absurd z (by decide)) (fun z => absurd z (by decide)) S (fun h1 F1 S1 => ?_)
  obtain ⟨r1, c7, ms⟩ := S1
  refine w_il (j := 51) rfl rfl rfl ?_
  refine w_swN (t := 164) rfl (by decide) (by omega) rfl ?_
  refine w_al (j := 165) rfl rfl rfl ?_
  refine w_il (j := 166) rfl rfl rfl ?_
  refine w_ic (n := 2) (j := 167) rfl rfl ?_
  refine w_neN (j := 168) rfl rfl (by omega) (by omega) (fun c => absurd c (fun z => z rfl)) (fun _ => ?_)
  refine w_ic (n := 1) (j := 169) rfl rfl ?_
  refine w_go rfl ?_
  refine w_il (j := 172) rfl rfl rfl ?_
  refine w_ic (n := 2) (j := 173) rfl rfl ?_
  refine w_neN (j := 174) rfl rfl (by omega) (by omega) (fun c => absurd c (fun z => z rfl)) (fun _ => ?_)
  refine w_bi (j := 175) (a := nI 40) rfl rfl (by decide) ?_
  refine w_go rfl ?_
  refine w_cvPI (j := 178) rfl rfl rfl rfl (by first | assumption | rfl) rfl rfl (sp_165 (lo := 1) (H := 41) (by decide) (px_hiN (a := 40) (by decide)) (by decide) r1) rfl ?_
  rintro v h2 ⟨q1, q2, q3⟩
  rw [if_pos hk] at q1
  rw [hk, if_pos rfl] at q3
  subst q1
  have r5 := q3.2.2.2.2.1
  refine w_is (j := 179) rfl rfl rfl ?_
  refine w_al (j := 180) rfl rfl rfl ?_
  first | refine w_gr (j := 181) rfl rfl (by first | assumption | rfl) (by first | assumption | rfl) rfl ?_ | refine w_gi (j := 181) rfl rfl (by first | assumption | rfl) (by first | assumption | rfl) rfl r5 ?_
  refine w_neM (j := 182) rfl rfl (by omega) (fun c => absurd c (fun c => by omega)) (fun _ => ?_)
  refine w_al (j := 183) rfl rfl rfl ?_
  first | refine w_gr (j := 184) rfl rfl (by first | assumption | rfl) (by first | assumption | rfl) rfl ?_ | refine w_gi (j := 184) rfl rfl (by first | assumption | rfl) (by first | assumption | rfl) rfl rfl ?_
  refine w_il (j := 185) rfl rfl rfl ?_
  refine w_il (j := 186) rfl rfl rfl ?_
  refine w_ias (j := 187) rfl rfl (by first | assumption | rfl) rfl (by omega) rfl ?_
  refine w_go rfl ?_
  refine w_il (j := 189) rfl rfl rfl ?_
  refine w_ic (n := 2) (j := 190) rfl rfl ?_
  refine w_geN (j := 191) rfl rfl (by omega) (by omega) (fun _ => ?_) (fun c => absurd c (fun c => by omega))
  have w1 := ws.1
  have w2 := ws.2.1
  refine H _ _ _ _ _ _ ?_ ⟨q3.of (ix_up_ne (by decide)) (ix_up_ne (by decide)) (fun j _ => px_up_na (by decide)), ?_, ?_⟩
  · exact F1.tr (q2.gF.up (by omega))
  · rw [px_up_na (by decide), q2.2 7 (by decide) (by decide) (by decide) (by decide)]; exact c7
  · obtain ⟨x1, x2, x3, x4⟩ := ms
    refine ⟨fun i hi => ?_, fun k hk => ?_, fun k hk => ?_, fun a b ha hb => ?_⟩
    · by_cases e : i = 2
      · rw [e, px_up_at, gx_u_at]
      · rw [px_up_nk e, gx_u_ne (by omega), q2.1 103 (by decide)]; exact x1 i hi
    · rw [gx_u_ne (by omega)] at hk
      rw [ix_up_ne (by omega), q2.1 _ (by omega), gx_u_ne (by omega), gx_u_ne (by omega)]; exact x2 k hk
    · rw [gx_u_ne (by omega)] at hk
      rw [ix_up_ne (by omega), q2.1 _ (by omega), gx_u_ne (by omega), gx_u_ne (by omega)]; exact x3 k hk
    · rw [ix_up_ne (by omega), q2.1 _ (by omega), gx_u_ne (by omega)]; exact x4 a b ha hb
theorem gE_f1 {c : Nat} {st : Nat → Nat → Nat} {s : Nat} (hs : gx_sk tx n s = s) (hw : gx_is tx s (gx_lt tx n s) (gx_W 3)) (hc : c < 60) (ws : gx_ws st) (hk : gx_nk tx n 0 10 (gx_lt tx n s) ≠ 0) : gE tx n c st s (gx_nk tx n 0 10 (gx_lt tx n s)) (gx_sk tx n (gx_lt tx n s)) := by
  refine gE_open (fun h S => ?_)
  refine gD_go hs (by decide) hw hc ws (fun z => absurd z (by decide)) (fun z => absurd z (by decide)) S (fun h1 F1 S1 => ?_)
  obtain ⟨r1, c7, ms⟩ := S1
  refine w_il (j := 51) rfl rfl rfl ?_
  refine w_swN (t := 164) rfl (by decide) (by omega) rfl ?_
  refine w_al (j := 165) rfl rfl rfl ?_
  refine w_il (j := 166) rfl rfl rfl ?_
  refine w_ic (n := 2) (j := 167) rfl rfl ?_
  refine w_neN (j := 168) rfl rfl (by omega) (by omega) (fun _ => ?_) (fun c => absurd c (fun c => by omega))
  refine w_ic (n := 0) (j := 171) rfl rfl ?_
  refine w_il (j := 172) rfl rfl rfl ?_
  refine w_ic (n := 2) (j := 173) rfl rfl ?_
  refine w_neN (j := 174) rfl rfl (by omega) (by omega) (fun _ => ?_) (fun c => absurd c (fun c => by omega))
  refine w_bi (j := 177) (a := nI 9) rfl rfl (by decide) ?_
  refine w_cvPI (j := 178) rfl rfl rfl rfl (by first | assumption | rfl) rfl rfl (sp_165 (lo := 0) (H := 10) (by decide) (px_hiN (a := 9) (by decide)) (by decide) r1) rfl ?_
  rintro v h2 ⟨q1, q2, q3⟩
  rw [if_neg hk] at q1 q3
  have r5 := q3.2.2.2.2.1
  have f3 := q3.2.2.2.2.2.1
  refine w_is (j := 179) rfl rfl rfl ?_
  refine w_al (j := 180) rfl rfl rfl ?_
  first | refine w_gr (j := 181) rfl rfl (by first | assumption | rfl) (by first | assumption | rfl) rfl ?_ | refine w_gi (j := 181) rfl rfl (by first | assumption | rfl) (by first | assumption | rfl) rfl r5 ?_
  refine w_neM (j := 182) rfl rfl (by omega) (fun _ => ?_) (fun c => absurd c (fun c => by omega))
  refine px_mono (mq_188 (by decide) hk q3) (fun r q => gE_px ?_ q)
  exact F1.tr q2.gF
theorem gD_f {c : Nat} {st : Nat → Nat → Nat} {s : Nat} (hs : gx_sk tx n s = s) (hw : gx_is tx s (gx_lt tx n s) (gx_W 3)) (hc : c < 60) (ws : gx_ws st) (hk : gx_nk tx n 0 10 (gx_lt tx n s) = 0) : gD tx n c st s (gx_u st 0 3 (gx_nv tx n (gx_lt tx n s))) (gx_ne tx n (gx_lt tx n s)) := by
  intro h Q S H
  refine gD_go hs (by decide) hw hc ws (fun z => absurd z (by decide)) (fun z => absurd z (by decide)) S (fun h1 F1 S1 => ?_)
  obtain ⟨r1, c7, ms⟩ := S1
  refine w_il (j := 51) rfl rfl rfl ?_
  refine w_swN (t := 164) rfl (by decide) (by omega) rfl ?_
  refine w_al (j := 165) rfl rfl rfl ?_
  refine w_il (j := 166) rfl rfl rfl ?_
  refine w_ic (n := 2) (j := 167) rfl rfl ?_
  refine w_neN (j := 168) rfl rfl (by omega) (by omega) (fun _ => ?_) (fun c => absurd c (fun c => by omega))
  refine w_ic (n := 0) (j := 171) rfl rfl ?_
  refine w_il (j := 172) rfl rfl rfl ?_
  refine w_ic (n := 2) (j := 173) rfl rfl ?_
  refine w_neN (j := 174) rfl rfl (by omega) (by omega) (fun _ => ?_) (fun c => absurd c (fun c => by omega))
  refine w_bi (j := 177) (a := nI 9) rfl rfl (by decide) ?_
  refine w_cvPI (j := 178) rfl rfl rfl rfl (by first | assumption | rfl) rfl rfl (sp_165 (lo := 0) (H := 10) (by decide) (px_hiN (a := 9) (by decide)) (by decide) r1) rfl ?_
  rintro v h2 ⟨q1, q2, q3⟩
  rw [if_pos hk] at q1
  rw [hk, if_pos rfl] at q3
  subst q1
  have r5 := q3.2.2.2.2.1
  refine w_is (j := 179) rfl rfl rfl ?_
  refine w_al (j := 180) rfl rfl rfl ?_
  first | refine w_gr (j := 181) rfl rfl (by first | assumption | rfl) (by first | assumption | rfl) rfl ?_ | refine w_gi (j := 181) rfl rfl (by first | assumption | rfl) (by first | assumption | rfl) rfl r5 ?_
  refine w_neM (j := 182) rfl rfl (by omega) (fun c => absurd c (fun c => by omega)) (fun _ => ?_)
  refine w_al (j := 183) rfl rfl rfl ?_
  first | refine w_gr (j := 184) rfl rfl (by first | assumption | rfl) (by first | assumption | rfl) rfl ?_ | refine w_gi (j := 184) rfl rfl (by first | assumption | rfl) (by first | assumption | rfl) rfl rfl ?_
  refine w_il (j := 185) rfl rfl rfl ?_
  refine w_il (j := 186) rfl rfl rfl ?_
  refine w_ias (j := 187) rfl rfl (by first | assumption | rfl) rfl (by omega) rfl ?_
  refine w_go rfl ?_
  refine w_il (j := 189) rfl rfl rfl ?_
  refine w_ic (n := 2) (j := 190) rfl rfl ?_
  refine w_geN (j := 191) rfl rfl (by omega) (by omega) (fun _ => ?_) (fun c => absurd c (fun c => by omega))
  have w1 := ws.1
  have w2 := ws.2.1
  refine H _ _ _ _ _ _ ?_ ⟨q3.of (ix_up_ne (by decide)) (ix_up_ne (by decide)) (fun j _ => px_up_na (by decide)), ?_, ?_⟩
  · exact F1.tr (q2.gF.up (by omega))
  · rw [px_up_na (by decide), q2.2 7 (by decide) (by decide) (by decide) (by decide)]; exact c7
  · obtain ⟨x1, x2, x3, x4⟩ := ms
    refine ⟨fun i hi => ?_, fun k hk => ?_, fun k hk => ?_, fun a b ha hb => ?_⟩
    · by_cases e : i = 3
      · rw [e, px_up_at, gx_u_at]
      · rw [px_up_nk e, gx_u_ne (by omega), q2.1 103 (by decide)]; exact x1 i hi
    · rw [gx_u_ne (by omega)] at hk
      rw [ix_up_ne (by omega), q2.1 _ (by omega), gx_u_ne (by omega), gx_u_ne (by omega)]; exact x2 k hk
    · rw [gx_u_ne (by omega)] at hk
      rw [ix_up_ne (by omega), q2.1 _ (by omega), gx_u_ne (by omega), gx_u_ne (by omega)]; exact x3 k hk
    · rw [ix_up_ne (by omega), q2.1 _ (by omega), gx_u_ne (by omega)]; exact x4 a b ha hb
theorem mq_141 {PL : Nat} {g2 g3 g4 g5 : Value} (hf : f ≠ 0) (r : px_mr h tx n p f (nI PL) 0) : px_R px_E 5 mo_176 [] 141 [.ref 100, .int (nI 4), g2, g3, g4, g5] [] h 0 (fun r => ∃ h', r = (.inl none, h', 0) ∧ gF h h' ∧ ∃ p, px_mr h' tx n p f (nI PL) 0) := by
  have r5 := r.2.2.2.2.1
  have f3 := r.2.2.2.2.2.1
  refine w_al (j := 142) rfl rfl rfl ?_
  refine w_ic (n := 1) (j := 143) rfl rfl ?_
  refine w_bi (j := 144) (a := nI 40) rfl rfl (by decide) ?_
  refine w_cvI (j := 145) rfl rfl rfl rfl (by first | assumption | rfl) rfl rfl (sp_165x hf r) rfl ?_
  refine w_iS (j := 146) rfl rfl rfl ?_
  refine w_al (j := 147) rfl rfl rfl ?_
  first | refine w_gr (j := 148) rfl rfl (by first | assumption | rfl) (by first | assumption | rfl) rfl ?_ | refine w_gi (j := 148) rfl rfl (by first | assumption | rfl) (by first | assumption | rfl) rfl r5 ?_
  refine w_neM (j := 149) rfl rfl (by omega) (fun _ => ?_) (fun c => absurd c (fun c => by omega))
  exact mq_188 (by decide) hf r
theorem gE_p1 {c : Nat} {st : Nat → Nat → Nat} {s : Nat} (hs : gx_sk tx n s = s) (hw : gx_is tx s (gx_lt tx n s) (gx_W 4)) (hc : c < 60) (ws : gx_ws st) (hk : gx_nk tx n 0 (st 0 0) (gx_lt tx n s) ≠ 0) : gE tx n c st s (gx_nk tx n 0 (st 0 0) (gx_lt tx n s)) (gx_sk tx n (gx_lt tx n s)) := by
  refine gE_open (fun h S => ?_)
  refine gD_go hs (by decide) hw hc ws (fun z => absurd z (by decide)) (fun z => absurd z (by decide)) S (fun h1 F1 S1 => ?_)
  obtain ⟨r1, c7, ms⟩ := S1
  have w1 := ws.1
  have w2 := ws.2.1
  have m0 := ms.1 0 (by decide)
  refine w_il (j := 51) rfl rfl rfl ?_
  refine w_swN (t := 106) rfl (by decide) (by omega) rfl ?_
  refine w_al (j := 107) rfl rfl rfl ?_
  refine w_ic (n := 0) (j := 108) rfl rfl ?_
  refine w_al (j := 109) rfl rfl rfl ?_
  first | refine w_gr (j := 110) rfl rfl (by first | assumption | rfl) (by first | assumption | rfl) rfl ?_ | refine w_gi (j := 110) rfl rfl (by first | assumption | rfl) (by first | assumption | rfl) rfl rfl ?_
  refine w_ic (n := 0) (j := 111) rfl rfl ?_
  refine w_ial (j := 112) rfl rfl (by first | assumption | rfl) rfl (by omega) rfl m0 ?_
  refine w_ic (n := 1) (j := 113) rfl rfl ?_
  first | refine w_subN (j := 114) rfl rfl (by omega) ?_ | refine w_sub (j := 114) rfl rfl ?_
  refine w_cvPI (j := 115) rfl rfl rfl rfl (by first | assumption | rfl) rfl rfl (sp_165 (lo := 0) (H := st 0 0) (by decide) (px_hiB (B := st 0 0) (by omega)) (by omega) r1) rfl ?_
  rintro v h2 ⟨q1, q2, q3⟩
  rw [if_neg hk] at q1 q3
  subst q1
  refine w_is (j := 116) rfl rfl rfl ?_
  refine w_al (j := 117) rfl rfl rfl ?_
  refine w_cvPU (j := 118) rfl rfl rfl rfl (by first | assumption | rfl) rfl rfl (sp_161 q3) rfl ?_
  rintro h3 ⟨y2, y3⟩
  have y4 := y3.2.2.1
  have p1n := q3.2.2.2.1
  have m0' : h3 103 0 = nI (st 0 0) := by rw [y2.1 103 (by decide), q2.1 103 (by decide)]; exact m0
  refine w_al (j := 119) rfl rfl rfl ?_
  first | refine w_gr (j := 120) rfl rfl (by first | assumption | rfl) (by first | assumption | rfl) rfl ?_ | refine w_gi (j := 120) rfl rfl (by first | assumption | rfl) (by first | assumption | rfl) rfl y4 ?_
  refine w_is (j := 121) rfl rfl rfl ?_
  refine w_al (j := 122) rfl rfl rfl ?_
  refine w_ic (n := 0) (j := 123) rfl rfl ?_
  refine w_al (j := 124) rfl rfl rfl ?_
  first | refine w_gr (j := 125) rfl rfl (by first | assumption | rfl) (by first | assumption | rfl) rfl ?_ | refine w_gi (j := 125) rfl rfl (by first | assumption | rfl) (by first | assumption | rfl) rfl rfl ?_
  refine w_ic (n := 0) (j := 126) rfl rfl ?_
  refine w_ial (j := 127) rfl rfl (by first | assumption | rfl) rfl (by omega) rfl m0' ?_
  refine w_ic (n := 1) (j := 128) rfl rfl ?_
  first | refine w_subN (j := 129) rfl rfl (by omega) ?_ | refine w_sub (j := 129) rfl rfl ?_
  refine w_cvI (j := 130) rfl rfl rfl rfl (by first | assumption | rfl) rfl rfl (sp_165x hk y3) rfl ?_
  have r5 := y3.2.2.2.2.1
  have f3 := y3.2.2.2.2.2.1
  refine w_iS (j := 131) rfl rfl rfl ?_
  refine w_al (j := 132) rfl rfl rfl ?_
  first | refine w_gr (j := 133) rfl rfl (by first | assumption | rfl) (by first | assumption | rfl) rfl ?_ | refine w_gi (j := 133) rfl rfl (by first | assumption | rfl) (by first | assumption | rfl) rfl r5 ?_
  refine w_neM (j := 134) rfl rfl (by omega) (fun _ => ?_) (fun c => absurd c (fun c => by omega))
  refine px_mono (mq_141 hk y3) (fun r q => gE_px ?_ q)
  exact F1.tr (q2.tr y2).gF
theorem gE_p2 {c : Nat} {st : Nat → Nat → Nat} {s : Nat} (hs : gx_sk tx n s = s) (hw : gx_is tx s (gx_lt tx n s) (gx_W 4)) (hc : c < 60) (ws : gx_ws st) (hk : gx_nk tx n 0 (st 0 0) (gx_lt tx n s) = 0) (hk2 : gx_nk tx n 0 (st 0 0) (gx_ne tx n (gx_lt tx n s)) ≠ 0) : gE tx n c st s (gx_nk tx n 0 (st 0 0) (gx_ne tx n (gx_lt tx n s))) (gx_sk tx n (gx_ne tx n (gx_lt tx n s))) := by
  refine gE_open (fun h S => ?_)
  refine gD_go hs (by decide) hw hc ws (fun z => absurd z (by decide)) (fun z => absurd z (by decide)) S (fun h1 F1 S1 => ?_)
  obtain ⟨r1, c7, ms⟩ := S1
  have w1 := ws.1
  have w2 := ws.2.1
  have m0 := ms.1 0 (by decide)
  refine w_il (j := 51) rfl rfl rfl ?_
  refine w_swN (t := 106) rfl (by decide) (by omega) rfl ?_
  refine w_al (j := 107) rfl rfl rfl ?_
  refine w_ic (n := 0) (j := 108) rfl rfl ?_
  refine w_al (j := 109) rfl rfl rfl ?_
  first | refine w_gr (j := 110) rfl rfl (by first | assumption | rfl) (by first | assumption | rfl) rfl ?_ | refine w_gi (j := 110) rfl rfl (by first | assumption | rfl) (by first | assumption | rfl) rfl rfl ?_
  refine w_ic (n := 0) (j := 111) rfl rfl ?_
  refine w_ial (j := 112) rfl rfl (by first | assumption | rfl) rfl (by omega) rfl m0 ?_
  refine w_ic (n := 1) (j := 113) rfl rfl ?_
  first | refine w_subN (j := 114) rfl rfl (by omega) ?_ | refine w_sub (j := 114) rfl rfl ?_
  refine w_cvPI (j := 115) rfl rfl rfl rfl (by first | assumption | rfl) rfl rfl (sp_165 (lo := 0) (H := st 0 0) (by decide) (px_hiB (B := st 0 0) (by omega)) (by omega) r1) rfl ?_
  rintro v h2 ⟨q1, q2, q3⟩
  rw [if_pos hk] at q1
  rw [hk, if_pos rfl] at q3
  subst q1
  refine w_is (j := 116) rfl rfl rfl ?_
  refine w_al (j := 117) rfl rfl rfl ?_
  refine w_cvPU (j := 118) rfl rfl rfl rfl (by first | assumption | rfl) rfl rfl (sp_161 q3) rfl ?_
  rintro h3 ⟨y2, y3⟩
  have y4 := y3.2.2.1
  have p1n := q3.2.2.2.1
  have m0' : h3 103 0 = nI (st 0 0) := by rw [y2.1 103 (by decide), q2.1 103 (by decide)]; exact m0
  refine w_al (j := 119) rfl rfl rfl ?_
  first | refine w_gr (j := 120) rfl rfl (by first | assumption | rfl) (by first | assumption | rfl) rfl ?_ | refine w_gi (j := 120) rfl rfl (by first | assumption | rfl) (by first | assumption | rfl) rfl y4 ?_
  refine w_is (j := 121) rfl rfl rfl ?_
  refine w_al (j := 122) rfl rfl rfl ?_
  refine w_ic (n := 0) (j := 123) rfl rfl ?_
  refine w_al (j := 124) rfl rfl rfl ?_
  first | refine w_gr (j := 125) rfl rfl (by first | assumption | rfl) (by first | assumption | rfl) rfl ?_ | refine w_gi (j := 125) rfl rfl (by first | assumption | rfl) (by first | assumption | rfl) rfl rfl ?_
  refine w_ic (n := 0) (j := 126) rfl rfl ?_
  refine w_ial (j := 127) rfl rfl (by first | assumption | rfl) rfl (by omega) rfl m0' ?_
  refine w_ic (n := 1) (j := 128) rfl rfl ?_
  first | refine w_subN (j := 129) rfl rfl (by omega) ?_ | refine w_sub (j := 129) rfl rfl ?_
  refine w_cvPI (j := 130) rfl rfl rfl rfl (by first | assumption | rfl) rfl rfl (sp_165 (lo := 0) (H := st 0 0) (by decide) (px_hiB (B := st 0 0) (by omega)) (by omega) y3) rfl ?_
  rintro v h4 ⟨x1, x2, x3⟩
  rw [gx_nk_sk p1n] at x1 x3
  rw [gx_ne_sk p1n, gx_sk_sk p1n] at x3
  rw [gx_nv_sk p1n] at x1
  rw [if_neg hk2] at x1 x3
  have r5 := x3.2.2.2.2.1
  have f3 := x3.2.2.2.2.2.1
  refine w_iS (j := 131) rfl rfl rfl ?_
  refine w_al (j := 132) rfl rfl rfl ?_
  first | refine w_gr (j := 133) rfl rfl (by first | assumption | rfl) (by first | assumption | rfl) rfl ?_ | refine w_gi (j := 133) rfl rfl (by first | assumption | rfl) (by first | assumption | rfl) rfl r5 ?_
  refine w_neM (j := 134) rfl rfl (by omega) (fun _ => ?_) (fun c => absurd c (fun c => by omega))
  refine px_mono (mq_141 hk2 x3) (fun r q => gE_px ?_ q)
  exact F1.tr ((q2.tr y2).tr x2).gF
theorem gE_p3 {c : Nat} {st : Nat → Nat → Nat} {s : Nat} (hs : gx_sk tx n s = s) (hw : gx_is tx s (gx_lt tx n s) (gx_W 4)) (hc : c < 60) (ws : gx_ws st) (hk : gx_nk tx n 0 (st 0 0) (gx_lt tx n s) = 0) (hk2 : gx_nk tx n 0 (st 0 0) (gx_ne tx n (gx_lt tx n s)) = 0) (he : gx_nv tx n (gx_lt tx n s) = gx_nv tx n (gx_ne tx n (gx_lt tx n s))) : gE tx n c st s 2 (gx_sk tx n (gx_ne tx n (gx_lt tx n s))) := by
  refine gE_open (fun h S => ?_)
  refine gD_go hs (by decide) hw hc ws (fun z => absurd z (by decide)) (fun z => absurd z (by decide)) S (fun h1 F1 S1 => ?_)
  obtain ⟨r1, c7, ms⟩ := S1
  have w1 := ws.1
  have w2 := ws.2.1
  have m0 := ms.1 0 (by decide)
  refine w_il (j := 51) rfl rfl rfl ?_
  refine w_swN (t := 106) rfl (by decide) (by omega) rfl ?_
  refine w_al (j := 107) rfl rfl rfl ?_
  refine w_ic (n := 0) (j := 108) rfl rfl ?_
  refine w_al (j := 109) rfl rfl rfl ?_
  first | refine w_gr (j := 110) rfl rfl (by first | assumption | rfl) (by first | assumption | rfl) rfl ?_ | refine w_gi (j := 110) rfl rfl (by first | assumption | rfl) (by first | assumption | rfl) rfl rfl ?_
  refine w_ic (n := 0) (j := 111) rfl rfl ?_
  refine w_ial (j := 112) rfl rfl (by first | assumption | rfl) rfl (by omega) rfl m0 ?_
  refine w_ic (n := 1) (j := 113) rfl rfl ?_
  first | refine w_subN (j := 114) rfl rfl (by omega) ?_ | refine w_sub (j := 114) rfl rfl ?_
  refine w_cvPI (j := 115) rfl rfl rfl rfl (by first | assumption | rfl) rfl rfl (sp_165 (lo := 0) (H := st 0 0) (by decide) (px_hiB (B := st 0 0) (by omega)) (by omega) r1) rfl ?_
  rintro v h2 ⟨q1, q2, q3⟩
  rw [if_pos hk] at q1
  rw [hk, if_pos rfl] at q3
  subst q1
  refine w_is (j := 116) rfl rfl rfl ?_
  refine w_al (j := 117) rfl rfl rfl ?_
  refine w_cvPU (j := 118) rfl rfl rfl rfl (by first | assumption | rfl) rfl rfl (sp_161 q3) rfl ?_
  rintro h3 ⟨y2, y3⟩
  have y4 := y3.2.2.1
  have p1n := q3.2.2.2.1
  have m0' : h3 103 0 = nI (st 0 0) := by rw [y2.1 103 (by decide), q2.1 103 (by decide)]; exact m0
  refine w_al (j := 119) rfl rfl rfl ?_
  first | refine w_gr (j := 120) rfl rfl (by first | assumption | rfl) (by first | assumption | rfl) rfl ?_ | refine w_gi (j := 120) rfl rfl (by first | assumption | rfl) (by first | assumption | rfl) rfl y4 ?_
  refine w_is (j := 121) rfl rfl rfl ?_
  refine w_al (j := 122) rfl rfl rfl ?_
  refine w_ic (n := 0) (j := 123) rfl rfl ?_
  refine w_al (j := 124) rfl rfl rfl ?_
  first | refine w_gr (j := 125) rfl rfl (by first | assumption | rfl) (by first | assumption | rfl) rfl ?_ | refine w_gi (j := 125) rfl rfl (by first | assumption | rfl) (by first | assumption | rfl) rfl rfl ?_
  refine w_ic (n := 0) (j := 126) rfl rfl ?_
  refine w_ial (j := 127) rfl rfl (by first | assumption | rfl) rfl (by omega) rfl m0' ?_
  refine w_ic (n := 1) (j := 128) rfl rfl ?_
  first | refine w_subN (j := 129) rfl rfl (by omega) ?_ | refine w_sub (j := 129) rfl rfl ?_
  refine w_cvPI (j := 130) rfl rfl rfl rfl (by first | assumption | rfl) rfl rfl (sp_165 (lo := 0) (H := st 0 0) (by decide) (px_hiB (B := st 0 0) (by omega)) (by omega) y3) rfl ?_
  rintro v h4 ⟨x1, x2, x3⟩
  rw [gx_nk_sk p1n] at x1 x3
  rw [gx_ne_sk p1n, gx_sk_sk p1n] at x3
  rw [gx_nv_sk p1n] at x1
  rw [if_pos hk2] at x1
  rw [hk2, if_pos rfl] at x3
  subst x1
  have x5 := x3.2.2.2.2.1
  have nv1 := gx_nv41 hk
  have nv2 := gx_nv41 hk2
  refine w_iS (j := 131) rfl rfl rfl ?_
  refine w_al (j := 132) rfl rfl rfl ?_
  first | refine w_gr (j := 133) rfl rfl (by first | assumption | rfl) (by first | assumption | rfl) rfl ?_ | refine w_gi (j := 133) rfl rfl (by first | assumption | rfl) (by first | assumption | rfl) rfl x5 ?_
  refine w_neM (j := 134) rfl rfl (by omega) (fun c => absurd c (fun c => by omega)) (fun _ => ?_)
  refine w_il (j := 135) rfl rfl rfl ?_
  refine w_iL (j := 136) rfl rfl rfl ?_
  refine w_neN (j := 137) rfl rfl (by omega) (by omega) (fun c => absurd c (fun z => z he)) (fun _ => ?_)
  refine w_al (j := 138) rfl rfl rfl ?_
  refine w_ic (n := 2) (j := 139) rfl rfl ?_
  refine w_il (j := 140) rfl rfl rfl ?_
  refine w_cvPU (j := 141) rfl rfl rfl rfl (by first | assumption | rfl) rfl rfl (sp_162 (kd := 2) (by decide) x3) rfl ?_
  rintro h5 ⟨u1, u2⟩
  rw [if_pos rfl, if_pos rfl] at u2
  refine px_mono (mq_141 (by decide) u2) (fun r q => gE_px ?_ q)
  exact F1.tr (((q2.tr y2).tr x2).tr u1).gF
theorem gE_p4 {c : Nat} {st : Nat → Nat → Nat} {s : Nat} (hs : gx_sk tx n s = s) (hw : gx_is tx s (gx_lt tx n s) (gx_W 4)) (hc : c < 60) (ws : gx_ws st) (hk : gx_nk tx n 0 (st 0 0) (gx_lt tx n s) = 0) (hk2 : gx_nk tx n 0 (st 0 0) (gx_ne tx n (gx_lt tx n s)) = 0) (he : gx_nv tx n (gx_lt tx n s) ≠ gx_nv tx n (gx_ne tx n (gx_lt tx n s))) (hk3 : gx_nk tx n 1 41 (gx_ne tx n (gx_ne tx n (gx_lt tx n s))) ≠ 0) : gE tx n c st s (gx_nk tx n 1 41 (gx_ne tx n (gx_ne tx n (gx_lt tx n s)))) (gx_sk tx n (gx_ne tx n (gx_ne tx n (gx_lt tx n s)))) := by
  refine gE_open (fun h S => ?_)
  refine gD_go hs (by decide) hw hc ws (fun z => absurd z (by decide)) (fun z => absurd z (by decide)) S (fun h1 F1 S1 => ?_)
  obtain ⟨r1, c7, ms⟩ := S1
  have w1 := ws.1
  have w2 := ws.2.1
  have m0 := ms.1 0 (by decide)
  refine w_il (j := 51) rfl rfl rfl ?_
  refine w_swN (t := 106) rfl (by decide) (by omega) rfl ?_
  refine w_al (j := 107) rfl rfl rfl ?_
  refine w_ic (n := 0) (j := 108) rfl rfl ?_
  refine w_al (j := 109) rfl rfl rfl ?_
  first | refine w_gr (j := 110) rfl rfl (by first | assumption | rfl) (by first | assumption | rfl) rfl ?_ | refine w_gi (j := 110) rfl rfl (by first | assumption | rfl) (by first | assumption | rfl) rfl rfl ?_
  refine w_ic (n := 0) (j := 111) rfl rfl ?_
  refine w_ial (j := 112) rfl rfl (by first | assumption | rfl) rfl (by omega) rfl m0 ?_
  refine w_ic (n := 1) (j := 113) rfl rfl ?_
  first | refine w_subN (j := 114) rfl rfl (by omega) ?_ | refine w_sub (j := 114) rfl rfl ?_
  refine w_cvPI (j := 115) rfl rfl rfl rfl (by first | assumption | rfl) rfl rfl (sp_165 (lo := 0) (H := st 0 0) (by decide) (px_hiB (B := st 0 0) (by omega)) (by omega) r1) rfl ?_
  rintro v h2 ⟨q1, q2, q3⟩
  rw [if_pos hk] at q1
  rw [hk, if_pos rfl] at q3
  subst q1
  refine w_is (j := 116) rfl rfl rfl ?_
  refine w_al (j := 117) rfl rfl rfl ?_
  refine w_cvPU (j := 118) rfl rfl rfl rfl (by first | assumption | rfl) rfl rfl (sp_161 q3) rfl ?_
  rintro h3 ⟨y2, y3⟩
  have y4 := y3.2.2.1
  have p1n := q3.2.2.2.1
  have m0' : h3 103 0 = nI (st 0 0) := by rw [y2.1 103 (by decide), q2.1 103 (by decide)]; exact m0
  refine w_al (j := 119) rfl rfl rfl ?_
  first | refine w_gr (j := 120) rfl rfl (by first | assumption | rfl) (by first | assumption | rfl) rfl ?_ | refine w_gi (j := 120) rfl rfl (by first | assumption | rfl) (by first | assumption | rfl) rfl y4 ?_
  refine w_is (j := 121) rfl rfl rfl ?_
  refine w_al (j := 122) rfl rfl rfl ?_
  refine w_ic (n := 0) (j := 123) rfl rfl ?_
  refine w_al (j := 124) rfl rfl rfl ?_
  first | refine w_gr (j := 125) rfl rfl (by first | assumption | rfl) (by first | assumption | rfl) rfl ?_ | refine w_gi (j := 125) rfl rfl (by first | assumption | rfl) (by first | assumption | rfl) rfl rfl ?_
  refine w_ic (n := 0) (j := 126) rfl rfl ?_
  refine w_ial (j := 127) rfl rfl (by first | assumption | rfl) rfl (by omega) rfl m0' ?_
  refine w_ic (n := 1) (j := 128) rfl rfl ?_
  first | refine w_subN (j := 129) rfl rfl (by omega) ?_ | refine w_sub (j := 129) rfl rfl ?_
  refine w_cvPI (j := 130) rfl rfl rfl rfl (by first | assumption | rfl) rfl rfl (sp_165 (lo := 0) (H := st 0 0) (by decide) (px_hiB (B := st 0 0) (by omega)) (by omega) y3) rfl ?_
  rintro v h4 ⟨x1, x2, x3⟩
  rw [gx_nk_sk p1n] at x1 x3
  rw [gx_ne_sk p1n, gx_sk_sk p1n] at x3
  rw [gx_nv_sk p1n] at x1
  rw [if_pos hk2] at x1
  rw [hk2, if_pos rfl] at x3
  subst x1
  have x5 := x3.2.2.2.2.1
  have nv1 := gx_nv41 hk
  have nv2 := gx_nv41 hk2
  refine w_iS (j := 131) rfl rfl rfl ?_
  refine w_al (j := 132) rfl rfl rfl ?_
  first | refine w_gr (j := 133) rfl rfl (by first | assumption | rfl) (by first | assumption | rfl) rfl ?_ | refine w_gi (j := 133) rfl rfl (by first | assumption | rfl) (by first | assumption | rfl) rfl x5 ?_
  refine w_neM (j := 134) rfl rfl (by omega) (fun c => absurd c (fun c => by omega)) (fun _ => ?_)
  refine w_il (j := 135) rfl rfl rfl ?_
  refine w_iL (j := 136) rfl rfl rfl ?_
  refine w_neN (j := 137) rfl rfl (by omega) (by omega) (fun _ => ?_) (fun c => absurd c (fun z => he z))
  refine w_al (j := 142) rfl rfl rfl ?_
  refine w_ic (n := 1) (j := 143) rfl rfl ?_
  refine w_bi (j := 144) (a := nI 40) rfl rfl (by decide) ?_
  refine w_cvPI (j := 145) rfl rfl rfl rfl (by first | assumption | rfl) rfl rfl (sp_165 (lo := 1) (H := 41) (by decide) (px_hiN (a := 40) (by decide)) (by decide) x3) rfl ?_
  rintro v h5 ⟨u1, u2, u3⟩
  rw [if_neg hk3] at u1 u3
  have r5 := u3.2.2.2.2.1
  have f3 := u3.2.2.2.2.2.1
  refine w_iS (j := 146) rfl rfl rfl ?_
  refine w_al (j := 147) rfl rfl rfl ?_
  first | refine w_gr (j := 148) rfl rfl (by first | assumption | rfl) (by first | assumption | rfl) rfl ?_ | refine w_gi (j := 148) rfl rfl (by first | assumption | rfl) (by first | assumption | rfl) rfl r5 ?_
  refine w_neM (j := 149) rfl rfl (by omega) (fun _ => ?_) (fun c => absurd c (fun c => by omega))
  refine px_mono (mq_188 (by decide) hk3 u3) (fun r q => gE_px ?_ q)
  exact F1.tr (((q2.tr y2).tr x2).tr u2).gF
theorem gx_ms_p {h1 h5 : ix_H} {A B V : Nat} {st : Nat → Nat → Nat} (FF : ∀ a, a ≠ 100 → h5 a = h1 a) (ms : gx_ms h1 st) (ws : gx_ws st) (hA : A < 6) (hB : B < 6) (hab : A ≠ B) : gx_ms (ix_up (ix_up h5 (138 + A) B (nI V)) (138 + B) A (nI V)) (gx_u (gx_u st (5 + A) B V) (5 + B) A V) := by
  have w1 := ws.1
  have w2 := ws.2.1
  obtain ⟨x1, x2, x3, x4⟩ := ms
  refine ⟨fun i hi => ?_, fun k hk => ?_, fun k hk => ?_, fun a b ha hb => ?_⟩
  · rw [ix_up_ne (by omega), ix_up_ne (by omega), FF _ (by omega), gx_u_ne (by omega), gx_u_ne (by omega)]; exact x1 i hi
  · rw [gx_u_ne (by omega), gx_u_ne (by omega)] at hk
    rw [ix_up_ne (by omega), ix_up_ne (by omega), FF _ (by omega), gx_u_ne (by omega), gx_u_ne (by omega), gx_u_ne (by omega), gx_u_ne (by omega)]; exact x2 k hk
  · rw [gx_u_ne (by omega), gx_u_ne (by omega)] at hk
    rw [ix_up_ne (by omega), ix_up_ne (by omega), FF _ (by omega), gx_u_ne (by omega), gx_u_ne (by omega), gx_u_ne (by omega), gx_u_ne (by omega)]; exact x3 k hk
  · by_cases e1 : a = B ∧ b = A
    · rw [e1.1, e1.2, px_up_at, gx_u_at]
    · rw [show gx_u (gx_u st (5 + A) B V) (5 + B) A V (5 + a) b = gx_u st (5 + A) B V (5 + a) b from gx_u_ne (by omega)]
      rw [show ix_up (ix_up h5 (138 + A) B (nI V)) (138 + B) A (nI V) (138 + a) b = ix_up h5 (138 + A) B (nI V) (138 + a) b by
        by_cases e2 : a = B
        · rw [e2, px_up_nk (by omega)]
        · rw [px_up_na (by omega)]]
      by_cases e3 : a = A ∧ b = B
      · rw [e3.1, e3.2, px_up_at, gx_u_at]
      · rw [gx_u_ne (by omega), show ix_up h5 (138 + A) B (nI V) (138 + a) b = h5 (138 + a) b by
          by_cases e2 : a = A
          · rw [e2, px_up_nk (by omega)]
          · rw [px_up_na (by omega)], FF _ (by omega)]
        exact x4 a b ha hb
def gx_p (tx : Nat → Nat) (n : Nat) (st : Nat → Nat → Nat) (e : Nat) : Nat → Nat → Nat := gx_u (gx_u st (5 + gx_nv tx n e) (gx_nv tx n (gx_ne tx n e)) (gx_nv tx n (gx_ne tx n (gx_ne tx n e)))) (5 + gx_nv tx n (gx_ne tx n e)) (gx_nv tx n e) (gx_nv tx n (gx_ne tx n (gx_ne tx n e)))
theorem gD_pq {c e A B V P1 P2 P3 : Nat} {st : Nat → Nat → Nat} {s : Nat} (hs : gx_sk tx n s = s) (hw : gx_is tx s (gx_lt tx n s) (gx_W 4)) (hc : c < 60) (ws : gx_ws st) (ee : gx_lt tx n s = e) (eA : gx_nv tx n e = A) (eP1 : gx_ne tx n e = P1) (eB : gx_nv tx n P1 = B) (eP2 : gx_ne tx n P1 = P2) (eV : gx_nv tx n P2 = V) (eP3 : gx_ne tx n P2 = P3) (hk : gx_nk tx n 0 (st 0 0) e = 0) (hk2 : gx_nk tx n 0 (st 0 0) P1 = 0) (he : A ≠ B) (hk3 : gx_nk tx n 1 41 P2 = 0) : gD tx n c st s (gx_u (gx_u st (5 + A) B V) (5 + B) A V) P3 := by
  intro h Q S H
  refine gD_go hs (by decide) hw hc ws (fun z => absurd z (by decide)) (fun z => absurd z (by decide)) S (fun h1 F1 S1 => ?_)
  obtain ⟨r1, c7, ms⟩ := S1
  have w1 := ws.1
  have w2 := ws.2.1
  have m0 := ms.1 0 (by decide)
  have nv0 : ∀ _ : Nat, A < st 0 0 ∧ B < st 0 0 := fun _ => by rw [← eA, ← eB]; exact ⟨(gx_nv41 hk).2, (gx_nv41 hk2).2⟩
  rw [ee] at r1
  clear hs hw ee S
  have r1p := r1.2.2.2.1
  have N1 := sp_165 (lo := 0) (H := st 0 0) (by decide) (px_hiB (B := st 0 0) (by omega)) (by omega) r1
  rw [if_pos hk, hk, if_pos rfl, eA, eP1] at N1
  clear hk
  refine w_il (j := 51) rfl rfl rfl ?_
  refine w_swN (t := 106) rfl (by decide) (by omega) rfl ?_
  refine w_al (j := 107) rfl rfl rfl ?_
  refine w_ic (n := 0) (j := 108) rfl rfl ?_
  refine w_al (j := 109) rfl rfl rfl ?_
  first | refine w_gr (j := 110) rfl rfl (by first | assumption | rfl) (by first | assumption | rfl) rfl ?_ | refine w_gi (j := 110) rfl rfl (by first | assumption | rfl) (by first | assumption | rfl) rfl rfl ?_
  refine w_ic (n := 0) (j := 111) rfl rfl ?_
  refine w_ial (j := 112) rfl rfl (by first | assumption | rfl) rfl (by omega) rfl m0 ?_
  refine w_ic (n := 1) (j := 113) rfl rfl ?_
  first | refine w_subN (j := 114) rfl rfl (by omega) ?_ | refine w_sub (j := 114) rfl rfl ?_
  refine w_cvPI (j := 115) rfl rfl rfl rfl (by first | assumption | rfl) rfl rfl (N1) rfl ?_
  rintro v h2 ⟨q1, q2, q3⟩
  subst q1
  refine w_is (j := 116) rfl rfl rfl ?_
  refine w_al (j := 117) rfl rfl rfl ?_
  refine w_cvPU (j := 118) rfl rfl rfl rfl (by first | assumption | rfl) rfl rfl (sp_161 q3) rfl ?_
  rintro h3 ⟨y2, y3⟩
  have y4 := y3.2.2.1
  have p1n := q3.2.2.2.1
  have m0' : h3 103 0 = nI (st 0 0) := by rw [y2.1 103 (by decide), q2.1 103 (by decide)]; exact m0
  have N2 := sp_165 (lo := 0) (H := st 0 0) (by decide) (px_hiB (B := st 0 0) (by omega)) (by omega) y3
  rw [gx_nk_sk p1n, gx_ne_sk p1n, gx_sk_sk p1n, gx_nv_sk p1n, if_pos hk2, hk2, if_pos rfl, eB, eP2] at N2
  clear hk2
  generalize gx_sk tx n P1 = S1 at y3 y4
  refine w_al (j := 119) rfl rfl rfl ?_
  first | refine w_gr (j := 120) rfl rfl (by first | assumption | rfl) (by first | assumption | rfl) rfl ?_ | refine w_gi (j := 120) rfl rfl (by first | assumption | rfl) (by first | assumption | rfl) rfl y4 ?_
  refine w_is (j := 121) rfl rfl rfl ?_
  refine w_al (j := 122) rfl rfl rfl ?_
  refine w_ic (n := 0) (j := 123) rfl rfl ?_
  refine w_al (j := 124) rfl rfl rfl ?_
  first | refine w_gr (j := 125) rfl rfl (by first | assumption | rfl) (by first | assumption | rfl) rfl ?_ | refine w_gi (j := 125) rfl rfl (by first | assumption | rfl) (by first | assumption | rfl) rfl rfl ?_
  refine w_ic (n := 0) (j := 126) rfl rfl ?_
  refine w_ial (j := 127) rfl rfl (by first | assumption | rfl) rfl (by omega) rfl m0' ?_
  refine w_ic (n := 1) (j := 128) rfl rfl ?_
  first | refine w_subN (j := 129) rfl rfl (by omega) ?_ | refine w_sub (j := 129) rfl rfl ?_
  refine w_cvPI (j := 130) rfl rfl rfl rfl (by first | assumption | rfl) rfl rfl (N2) rfl ?_
  rintro v h4 ⟨x1, x2, x3⟩
  subst x1
  have x5 := x3.2.2.2.2.1
  have N3 := sp_165 (lo := 1) (H := 41) (by decide) (px_hiN (a := 40) (by decide)) (by decide) x3
  rw [if_pos hk3, hk3, if_pos rfl, eV, eP3] at N3
  clear hk3 eA eP1 eB eP2 eV eP3
  have nv1 := nv0 0
  refine w_iS (j := 131) rfl rfl rfl ?_
  refine w_al (j := 132) rfl rfl rfl ?_
  first | refine w_gr (j := 133) rfl rfl (by first | assumption | rfl) (by first | assumption | rfl) rfl ?_ | refine w_gi (j := 133) rfl rfl (by first | assumption | rfl) (by first | assumption | rfl) rfl x5 ?_
  refine w_neM (j := 134) rfl rfl (by omega) (fun c => absurd c (fun c => by omega)) (fun _ => ?_)
  refine w_il (j := 135) rfl rfl rfl ?_
  refine w_iL (j := 136) rfl rfl rfl ?_
  refine w_neN (j := 137) rfl rfl (by omega) (by omega) (fun _ => ?_) (fun c => absurd c (fun c => by omega))
  refine w_al (j := 142) rfl rfl rfl ?_
  refine w_ic (n := 1) (j := 143) rfl rfl ?_
  refine w_bi (j := 144) (a := nI 40) rfl rfl (by decide) ?_
  refine w_cvPI (j := 145) rfl rfl rfl rfl (by first | assumption | rfl) rfl rfl (N3) rfl ?_
  rintro v h5 ⟨u1, u2, u3⟩
  subst u1
  have r5 := u3.2.2.2.2.1
  have sa := px_sh138 A (by omega)
  have sb := px_sh138 B (by omega)
  refine w_iS (j := 146) rfl rfl rfl ?_
  refine w_al (j := 147) rfl rfl rfl ?_
  first | refine w_gr (j := 148) rfl rfl (by first | assumption | rfl) (by first | assumption | rfl) rfl ?_ | refine w_gi (j := 148) rfl rfl (by first | assumption | rfl) (by first | assumption | rfl) rfl r5 ?_
  refine w_neM (j := 149) rfl rfl (by omega) (fun c => absurd c (fun c => by omega)) (fun _ => ?_)
  refine w_al (j := 150) rfl rfl rfl ?_
  first | refine w_gr (j := 151) rfl rfl (by first | assumption | rfl) (by first | assumption | rfl) rfl ?_ | refine w_gi (j := 151) rfl rfl (by first | assumption | rfl) (by first | assumption | rfl) rfl rfl ?_
  refine w_il (j := 152) rfl rfl rfl ?_
  refine w_aal (j := 153) rfl rfl (by first | assumption | rfl) rfl (by omega) rfl ?_
  refine w_iL (j := 154) rfl rfl rfl ?_
  refine w_iL (j := 155) rfl rfl rfl ?_
  refine w_ias (j := 156) rfl rfl (by first | assumption | rfl) rfl (by omega) rfl ?_
  refine w_al (j := 157) rfl rfl rfl ?_
  first | refine w_gr (j := 158) rfl rfl (by first | assumption | rfl) (by first | assumption | rfl) rfl ?_ | refine w_gi (j := 158) rfl rfl (by first | assumption | rfl) (by first | assumption | rfl) rfl rfl ?_
  refine w_iL (j := 159) rfl rfl rfl ?_
  refine w_aal (j := 160) rfl rfl (by first | assumption | rfl) rfl (by omega) rfl ?_
  refine w_il (j := 161) rfl rfl rfl ?_
  refine w_iL (j := 162) rfl rfl rfl ?_
  refine w_ias (j := 163) rfl rfl (by first | assumption | rfl) rfl (by omega) rfl ?_
  refine w_go rfl ?_
  refine w_il (j := 189) rfl rfl rfl ?_
  refine w_ic (n := 2) (j := 190) rfl rfl ?_
  refine w_geN (j := 191) rfl rfl (by omega) (by omega) (fun _ => ?_) (fun c => absurd c (fun c => by omega))
  have FF := ((q2.tr y2).tr x2).tr u2
  refine H _ _ _ _ _ _ ?_ ⟨u3.of ?_ ?_ (fun j _ => ?_), ?_, gx_ms_p FF.1 ms ws (by omega) (by omega) he⟩
  · exact F1.tr ((FF.gF.up (by omega)).up (by omega))
  · rw [ix_up_ne (by omega), ix_up_ne (by omega)]
  · rw [ix_up_ne (by omega), ix_up_ne (by omega)]
  · rw [ix_up_ne (by omega), ix_up_ne (by omega)]
  · rw [ix_up_ne (by omega), ix_up_ne (by omega), FF.2 7 (by decide) (by decide) (by decide) (by decide)]; exact c7
theorem gD_p {c : Nat} {st : Nat → Nat → Nat} {s : Nat} (hs : gx_sk tx n s = s) (hw : gx_is tx s (gx_lt tx n s) (gx_W 4)) (hc : c < 60) (ws : gx_ws st) (hk : gx_nk tx n 0 (st 0 0) (gx_lt tx n s) = 0) (hk2 : gx_nk tx n 0 (st 0 0) (gx_ne tx n (gx_lt tx n s)) = 0) (he : gx_nv tx n (gx_lt tx n s) ≠ gx_nv tx n (gx_ne tx n (gx_lt tx n s))) (hk3 : gx_nk tx n 1 41 (gx_ne tx n (gx_ne tx n (gx_lt tx n s))) = 0) : gD tx n c st s (gx_p tx n st (gx_lt tx n s)) (gx_ne tx n (gx_ne tx n (gx_ne tx n (gx_lt tx n s)))) := gD_pq hs hw hc ws rfl rfl rfl rfl rfl rfl rfl hk hk2 he hk3
-- the last sign
def gO (tx : Nat → Nat) (n c : Nat) (st : Nat → Nat → Nat) (s : Nat) (st1 : Nat → Nat → Nat) (p1 : Nat) : Prop := ∀ h, gx_mS h tx n s c st → px_PU 6 176 [.ref 100] h (fun h' => gF h h' ∧ gx_mS h' tx n p1 (c + 1) st1)
theorem gD.bad {c : Nat} {st st1 : Nat → Nat → Nat} {s p1 : Nat} (D : gD tx n c st s st1 p1) (hz : ¬ (gx_sk tx n p1 < n ∧ tx (gx_sk tx n p1) = 59)) : gE tx n c st s 1 (gx_sk tx n p1) := by
  refine gE_open (fun h S => ?_)
  refine D h _ S (fun h1 g1 g2 g3 g4 g5 F1 S1 => ?_)
  obtain ⟨r1, c7, ms⟩ := S1
  refine w_al (j := 205) rfl rfl rfl ?_
  refine w_bi (j := 206) (a := nI 59) rfl rfl (by decide) ?_
  refine w_cvPU (j := 207) rfl rfl rfl rfl (by first | assumption | rfl) rfl rfl (sp_171 (c := 59) (by decide) r1) rfl ?_
  rintro h2 ⟨u1, u2⟩
  rw [if_neg hz] at u2
  refine w_rt rfl ?_
  exact ⟨_, rfl, F1.tr u1.gF, _, u2⟩
theorem gD.ok {c : Nat} {st st1 : Nat → Nat → Nat} {s p1 : Nat} (w1 : gx_ws st1) (D : gD tx n c st s st1 p1) (hz : gx_sk tx n p1 < n ∧ tx (gx_sk tx n p1) = 59) : gO tx n c st s st1 (gx_sk tx n p1 + 1) := by
  intro h S
  refine px_M (M := mt_176) (ops := mo_176) tb_176 rfl rfl rfl rfl rfl ?_
  refine D h _ S (fun h1 g1 g2 g3 g4 g5 F1 S1 => ?_)
  obtain ⟨r1, c7, ms⟩ := S1
  refine w_al (j := 205) rfl rfl rfl ?_
  refine w_bi (j := 206) (a := nI 59) rfl rfl (by decide) ?_
  refine w_cvPU (j := 207) rfl rfl rfl rfl (by first | assumption | rfl) rfl rfl (sp_171 (c := 59) (by decide) r1) rfl ?_
  rintro h2 ⟨u1, u2⟩
  rw [if_pos hz] at u2
  refine w_rt rfl ?_
  exact ⟨_, rfl, F1.tr u1.gF, u2, by rw [u1.2 7 (by decide) (by decide) (by decide) (by decide)]; exact c7, ms.of (fun a a1 a2 => u1.1 a (by omega)) w1⟩
-- the model's loop over clauses ends so
def gG (tx : Nat → Nat) (n c : Nat) (st : Nat → Nat → Nat) (s K PL : Nat) (st' : Nat → Nat → Nat) : Prop := ∀ h Q w, gx_mS h tx n s c st → (∀ h', gF h h' → (K ≠ 0 → ∃ p, px_mr h' tx n p K (nI PL) 0) → (K = 0 → (∃ p, px_mr h' tx n p 0 (-1) 0) ∧ gx_ms h' st') → px_R px_E 6 mo_177 [] 37 [.ref 100, .int w] [] h' 0 Q) → px_R px_E 6 mo_177 [] 24 [.ref 100, .int w] [] h 0 Q
theorem gG_end {c : Nat} {st : Nat → Nat → Nat} {s PL : Nat} (hs : ¬ s < n) : gG tx n c st s 0 PL st := by
  intro h Q w S H
  have H := H h gF.rf (fun z => absurd rfl z) (fun _ => ⟨⟨_, S.1⟩, S.2.2⟩)
  obtain ⟨r, c7, ms⟩ := S
  have r2 := r.2.1
  have r4 := r.2.2.1
  have r3 := r.2.2.2.1
  have n6 := r.1.1
  have r5 := r.2.2.2.2.1
  refine w_al (j := 25) rfl rfl rfl ?_
  first | refine w_gr (j := 26) rfl rfl (by first | assumption | rfl) (by first | assumption | rfl) rfl ?_ | refine w_gi (j := 26) rfl rfl (by first | assumption | rfl) (by first | assumption | rfl) rfl r5 ?_
  refine w_neM (j := 27) rfl rfl (by omega) (fun c => absurd c (fun c => by omega)) (fun _ => ?_)
  refine w_al (j := 28) rfl rfl rfl ?_
  first | refine w_gr (j := 29) rfl rfl (by first | assumption | rfl) (by first | assumption | rfl) rfl ?_ | refine w_gi (j := 29) rfl rfl (by first | assumption | rfl) (by first | assumption | rfl) rfl r4 ?_
  refine w_al (j := 30) rfl rfl rfl ?_
  first | refine w_gr (j := 31) rfl rfl (by first | assumption | rfl) (by first | assumption | rfl) rfl ?_ | refine w_gi (j := 31) rfl rfl (by first | assumption | rfl) (by first | assumption | rfl) rfl r2 ?_
  refine w_geN (j := 32) rfl rfl (by omega) (by omega) (fun _ => ?_) (fun c => absurd c (fun c => by omega))
  exact H
theorem gG_bad {c : Nat} {st st' : Nat → Nat → Nat} {s K PL : Nat} (hs : s < n) (hK : K ≠ 0) (E : gE tx n c st s K PL) : gG tx n c st s K PL st' := by
  intro h Q w S H
  have E := E h S
  obtain ⟨r, c7, ms⟩ := S
  have r2 := r.2.1
  have r4 := r.2.2.1
  have r3 := r.2.2.2.1
  have n6 := r.1.1
  have r5 := r.2.2.2.2.1
  refine w_al (j := 25) rfl rfl rfl ?_
  first | refine w_gr (j := 26) rfl rfl (by first | assumption | rfl) (by first | assumption | rfl) rfl ?_ | refine w_gi (j := 26) rfl rfl (by first | assumption | rfl) (by first | assumption | rfl) rfl r5 ?_
  refine w_neM (j := 27) rfl rfl (by omega) (fun c => absurd c (fun c => by omega)) (fun _ => ?_)
  refine w_al (j := 28) rfl rfl rfl ?_
  first | refine w_gr (j := 29) rfl rfl (by first | assumption | rfl) (by first | assumption | rfl) rfl ?_ | refine w_gi (j := 29) rfl rfl (by first | assumption | rfl) (by first | assumption | rfl) rfl r4 ?_
  refine w_al (j := 30) rfl rfl rfl ?_
  first | refine w_gr (j := 31) rfl rfl (by first | assumption | rfl) (by first | assumption | rfl) rfl ?_ | refine w_gi (j := 31) rfl rfl (by first | assumption | rfl) (by first | assumption | rfl) rfl r2 ?_
  refine w_geN (j := 32) rfl rfl (by omega) (by omega) (fun c => absurd c (fun c => by omega)) (fun _ => ?_)
  refine w_al (j := 33) rfl rfl rfl ?_
  refine w_cvPU (j := 34) rfl rfl rfl rfl (by first | assumption | rfl) rfl rfl (E) rfl ?_
  rintro h1 ⟨F1, p1, r1⟩
  refine w_al (j := 35) rfl rfl rfl ?_
  refine w_cvPU (j := 36) rfl rfl rfl rfl (by first | assumption | rfl) rfl rfl (sp_161 r1) rfl ?_
  rintro h2 ⟨F2, u2⟩
  have t5 := u2.2.2.2.2.1
  have t3 := u2.2.2.2.2.2.1
  refine w_go rfl ?_
  refine w_al (j := 25) rfl rfl rfl ?_
  first | refine w_gr (j := 26) rfl rfl (by first | assumption | rfl) (by first | assumption | rfl) rfl ?_ | refine w_gi (j := 26) rfl rfl (by first | assumption | rfl) (by first | assumption | rfl) rfl t5 ?_
  refine w_neM (j := 27) rfl rfl (by omega) (fun _ => ?_) (fun c => absurd c (fun c => by omega))
  exact H h2 (F1.tr F2.gF) (fun _ => ⟨_, u2⟩) (fun z => absurd z hK)
theorem gG_step {c : Nat} {st st1 st' : Nat → Nat → Nat} {s p1 K PL : Nat} (w1 : gx_ws st1) (hs : s < n) (O : gO tx n c st s st1 p1) (G : gG tx n (c + 1) st1 (gx_sk tx n p1) K PL st') : gG tx n c st s K PL st' := by
  intro h Q w S H
  have O := O h S
  obtain ⟨r, c7, ms⟩ := S
  have r2 := r.2.1
  have r4 := r.2.2.1
  have r3 := r.2.2.2.1
  have n6 := r.1.1
  have r5 := r.2.2.2.2.1
  refine w_al (j := 25) rfl rfl rfl ?_
  first | refine w_gr (j := 26) rfl rfl (by first | assumption | rfl) (by first | assumption | rfl) rfl ?_ | refine w_gi (j := 26) rfl rfl (by first | assumption | rfl) (by first | assumption | rfl) rfl r5 ?_
  refine w_neM (j := 27) rfl rfl (by omega) (fun c => absurd c (fun c => by omega)) (fun _ => ?_)
  refine w_al (j := 28) rfl rfl rfl ?_
  first | refine w_gr (j := 29) rfl rfl (by first | assumption | rfl) (by first | assumption | rfl) rfl ?_ | refine w_gi (j := 29) rfl rfl (by first | assumption | rfl) (by first | assumption | rfl) rfl r4 ?_
  refine w_al (j := 30) rfl rfl rfl ?_
  first | refine w_gr (j := 31) rfl rfl (by first | assumption | rfl) (by first | assumption | rfl) rfl ?_ | refine w_gi (j := 31) rfl rfl (by first | assumption | rfl) (by first | assumption | rfl) rfl r2 ?_
  refine w_geN (j := 32) rfl rfl (by omega) (by omega) (fun c => absurd c (fun c => by omega)) (fun _ => ?_)
  refine w_al (j := 33) rfl rfl rfl ?_
  refine w_cvPU (j := 34) rfl rfl rfl rfl (by first | assumption | rfl) rfl rfl (O) rfl ?_
  rintro h1 ⟨F1, r1, c71, ms1⟩
  refine w_al (j := 35) rfl rfl rfl ?_
  refine w_cvPU (j := 36) rfl rfl rfl rfl (by first | assumption | rfl) rfl rfl (sp_161 r1) rfl ?_
  rintro h2 ⟨F2, u2⟩
  refine w_go rfl ?_
  exact G h2 Q w ⟨u2, by rw [F2.2 7 (by decide) (by decide) (by decide) (by decide)]; exact c71, ms1.of (fun a a1 a2 => F2.1 a (by omega)) w1⟩ (fun h' F' a b => H h' ((F1.tr F2.gF).tr F') a b)
end GO
