/-! the law's loop: the world of both sides, what holds of it at every turn -/
noncomputable def WLd (G : gG) (xo tt rd nw th kp sh tu b0 co en sk c0 c1 c2 c3 c4 c5 e0 e1 e2 e3 e4 e5 n1 n2 n3 n4 n5 n6 n7 n8 t1 t2 t3 t4 t5 t6 t7 t8 k1 k2 k3 k4 k5 k6 k7 k8 qn qo ql r0 r1 r2 r3 tw tr w0 w1 w2 w3 w4 w5 mo Akd Amo Ast Aro Atp Acd Asr Air Aih Ass Asq Ace Alw Awo Ahe Ask Ana Akp Agb Ago Afa Aga Avo : Nat) (fc fe fn fw : Nat → Option Nat) (tx : Nat) (fcr0 fcr1 fcr2 fcr3 fcr4 fcr5 : Nat → Int32) (fer0 fer1 fer2 fer3 fer4 fer5 : Nat → Nat) (him x2 x3 x4 x5 : Int32) (td : Nat) (fb : Nat → Int32) (wr : Int32) (fsk : Nat → Int32) (jg pb lw : Nat) (fnm fso fmi fpa fki fmo fsz frd : Nat → Int32) (tj tb tl : Int32) (unm uso umi upa uki umo usz urd : Nat → Int32) (kj kb kl : Nat) (gnm gso gmi gpa gki gmo gsz grd fs0 fs1 fs2 fs3 fqo : Nat → Int32) (fql : Nat → Nat) (fw0 fw1 fw2 fw3 fw4 fw5 ftr : Nat → Int32) (Npb Njg Ntd Ntx Nru : Nat) (Zhi Z19 Z20 Z21 Z22 Z25 Z26 Z27 Z31 Z32 Z33 Z34 Z39 Z40 : Int32) (Fkd Fmo Fst Fro Ftp Fcd : Nat → Int32) (Fsr : Nat → Nat) (Fir Fih Fss : Nat → Int32) (Fsq : Nat → Nat) (Fce Flw Fwo Fhe Fsk Fna Fkp Fgb Fgo Ffa Fga Fvo : Nat → Int32) : va_W := [zo5 xo tt rd nw th kp sh tu him, zo1 rd tt b0 x2 x3 x4 x5 (nI td), zi G b0 160 fb, zo3 tt co en sk wr (nI tx), zr G co 6 fc, zi G c0 160 fcr0, zi G c1 160 fcr1, zi G c2 160 fcr2, zi G c3 160 fcr3, zi G c4 160 fcr4, zi G c5 160 fcr5, zr G en 6 fe, zi G e0 3 (nF fer0), zi G e1 3 (nF fer1), zi G e2 3 (nF fer2), zi G e3 3 (nF fer3), zi G e4 3 (nF fer4), zi G e5 3 (nF fer5), zi G sk 32 fsk, zo0 nw tt n1 n2 n3 n4 n5 n6 n7 n8 (nI jg) (nI pb) (nI lw), zi G n1 6 fnm, zi G n2 4 fso, zi G n3 4 fmi, zi G n4 4 fpa, zi G n5 6 fki, zi G n6 6 fmo, zi G n7 6 fsz, zi G n8 6 frd, zo0 th tt t1 t2 t3 t4 t5 t6 t7 t8 tj tb tl, zi G t1 6 unm, zi G t2 4 uso, zi G t3 4 umi, zi G t4 4 upa, zi G t5 6 uki, zi G t6 6 umo, zi G t7 6 usz, zi G t8 6 urd, zo0 kp tt k1 k2 k3 k4 k5 k6 k7 k8 (nI kj) (nI kb) (nI kl), zi G k1 6 gnm, zi G k2 4 gso, zi G k3 4 gmi, zi G k4 4 gpa, zi G k5 6 gki, zi G k6 6 gmo, zi G k7 6 gsz, zi G k8 6 grd, zo2 sh qn qo ql, zr G qn 4 fn, zi G r0 40 fs0, zi G r1 40 fs1, zi G r2 40 fs2, zi G r3 40 fs3, zi G qo 4 fqo, zi G ql 4 (nF fql), zo4 tu tw tr, zr G tw 6 fw, zi G w0 6 fw0, zi G w1 6 fw1, zi G w2 6 fw2, zi G w3 6 fw3, zi G w4 6 fw4, zi G w5 6 fw5, zi G tr 64 ftr, zo6 mo (nI Npb) Akd Amo Ast (nI Njg) Aro Atp (nI Ntd) Acd Asr (nI Ntx) (nI Nru) Zhi Air Aih Ass Asq Ace Alw Z19 Z20 Z21 Z22 Awo Ahe Z25 Z26 Z27 Ask Ana Akp Z31 Z32 Z33 Z34 Agb Ago Afa Aga Z39 Z40 Avo, zi G Akd 6 Fkd, zi G Amo 6 Fmo, zi G Ast 12 Fst, zi G Aro 12 Fro, zi G Atp 160 Ftp, zi G Acd 1200 Fcd, zi G Asr 24 (nF Fsr), zi G Air 24 Fir, zi G Aih 3 Fih, zi G Ass 4 Fss, zi G Asq 4 (nF Fsq), zi G Ace 160 Fce, zi G Alw 40 Flw, zi G Awo 96 Fwo, zi G Ahe 200 Fhe, zi G Ask 200 Fsk, zi G Ana 6 Fna, zi G Akp 24 Fkp, zb G Agb 61 Fgb, zb G Ago 61 Fgo, zi G Afa 36 Ffa, zi G Aga 36 Fga, zi G Avo 64 Fvo]
def FXP (jg pb lw kj kb kl tx td : Nat) (him : Int32) (fql : Nat → Nat) : Prop := (jg ≤ 4 ∧ pb ≤ 6 ∧ lw < tx ∧ tx ≤ 6 ∧ td ≤ 160) ∧ (him = 0 ∨ (kj ≤ 4 ∧ kb ≤ 6 ∧ kl < tx)) ∧ ∀ q9, q9 < 4 → fql q9 ≤ 40
def FMP (Npb Njg Ntd Ntx Nru : Nat) (Zhi : Int32) (Fcd : Nat → Int32) (Fsr Fsq : Nat → Nat) (Fir Fih : Nat → Int32) : Prop := (Npb ≤ 6 ∧ Njg ≤ 4 ∧ Nru < Ntx ∧ Ntx ≤ 6 ∧ Ntd ≤ 160) ∧ (∀ t9, t9 < Ntx → mWf Fcd Fsr t9) ∧ (∀ q9, q9 < 4 → Fsq q9 ≤ 40) ∧ (Zhi = 0 ∨ (Zhi = 1 ∧ ∃ ga6 gb6 ip ij il, Fir = mKeep ga6 gb6 ∧ Fih = mHold (nI ip) (nI ij) (nI il) ∧ ip ≤ 6 ∧ ij ≤ 4 ∧ il < Ntx))
def LawV (p : Program) (l : Launch) (e : Env) (s : State) (m : MethodId) (below : List Frame) (meth : Method) (c : Code) (b : Nat) (G : gG) (A : Nat → Prop) (xo tt rd nw th kp sh tu b0 co en sk c0 c1 c2 c3 c4 c5 e0 e1 e2 e3 e4 e5 n1 n2 n3 n4 n5 n6 n7 n8 t1 t2 t3 t4 t5 t6 t7 t8 k1 k2 k3 k4 k5 k6 k7 k8 qn qo ql r0 r1 r2 r3 tw tr w0 w1 w2 w3 w4 w5 mo Akd Amo Ast Aro Atp Acd Asr Air Aih Ass Asq Ace Alw Awo Ahe Ask Ana Akp Agb Ago Afa Aga Avo : Nat) (fc fe fn fw : Nat → Option Nat) (tx : Nat) (fcr0 fcr1 fcr2 fcr3 fcr4 fcr5 : Nat → Int32) (fer0 fer1 fer2 fer3 fer4 fer5 : Nat → Nat) (i7 : Nat) : Prop := ∀ (him x2 x3 x4 x5 : Int32) (td : Nat) (fb : Nat → Int32) (wr : Int32) (fsk : Nat → Int32) (jg pb lw : Nat) (fnm fso fmi fpa fki fmo fsz frd : Nat → Int32) (tj tb tl : Int32) (unm uso umi upa uki umo usz urd : Nat → Int32) (kj kb kl : Nat) (gnm gso gmi gpa gki gmo gsz grd fs0 fs1 fs2 fs3 fqo : Nat → Int32) (fql : Nat → Nat) (fw0 fw1 fw2 fw3 fw4 fw5 ftr : Nat → Int32) (Npb Njg Ntd Ntx Nru : Nat) (Zhi Z19 Z20 Z21 Z22 Z25 Z26 Z27 Z31 Z32 Z33 Z34 Z39 Z40 : Int32) (Fkd Fmo Fst Fro Ftp Fcd : Nat → Int32) (Fsr : Nat → Nat) (Fir Fih Fss : Nat → Int32) (Fsq : Nat → Nat) (Fce Flw Fwo Fhe Fsk Fna Fkp Fgb Fgo Ffa Fga Fvo : Nat → Int32), FXP jg pb lw kj kb kl tx td him fql → FMP Npb Njg Ntd Ntx Nru Zhi Fcd Fsr Fsq Fir Fih → RLP False fn r0 r1 r2 r3 jg pb kj kb him fs0 fs1 fs2 fs3 fqo fql Npb Njg Zhi Fss Fsq Fce Fih → RQP fc c0 c1 c2 c3 c4 c5 fcr0 fcr1 fcr2 fcr3 fcr4 fcr5 fer0 fer1 fer2 fer3 fer4 fer5 pb lw tx td kb kl him fb fso fmi fpa fki fmo fsz frd gso gmi gpa gki gmo gsz grd Nru Ntx Ntd Fkd Fmo Fst Fro Ftp Fcd Fsr Fir Fih Fwo → ∀ (H : Heap) (locs : List Loc) (ls : Array Slot), va_P G.1 vwCl (WLd G xo tt rd nw th kp sh tu b0 co en sk c0 c1 c2 c3 c4 c5 e0 e1 e2 e3 e4 e5 n1 n2 n3 n4 n5 n6 n7 n8 t1 t2 t3 t4 t5 t6 t7 t8 k1 k2 k3 k4 k5 k6 k7 k8 qn qo ql r0 r1 r2 r3 tw tr w0 w1 w2 w3 w4 w5 mo Akd Amo Ast Aro Atp Acd Asr Air Aih Ass Asq Ace Alw Awo Ahe Ask Ana Akp Agb Ago Afa Aga Avo fc fe fn fw tx fcr0 fcr1 fcr2 fcr3 fcr4 fcr5 fer0 fer1 fer2 fer3 fer4 fer5 him x2 x3 x4 x5 td fb wr fsk jg pb lw fnm fso fmi fpa fki fmo fsz frd tj tb tl unm uso umi upa uki umo usz urd kj kb kl gnm gso gmi gpa gki gmo gsz grd fs0 fs1 fs2 fs3 fqo fql fw0 fw1 fw2 fw3 fw4 fw5 ftr Npb Njg Ntd Ntx Nru Zhi Z19 Z20 Z21 Z22 Z25 Z26 Z27 Z31 Z32 Z33 Z34 Z39 Z40 Fkd Fmo Fst Fro Ftp Fcd Fsr Fir Fih Fss Fsq Fce Flw Fwo Fhe Fsk Fna Fkp Fgb Fgo Ffa Fga Fvo) H → va_D A (WLd G xo tt rd nw th kp sh tu b0 co en sk c0 c1 c2 c3 c4 c5 e0 e1 e2 e3 e4 e5 n1 n2 n3 n4 n5 n6 n7 n8 t1 t2 t3 t4 t5 t6 t7 t8 k1 k2 k3 k4 k5 k6 k7 k8 qn qo ql r0 r1 r2 r3 tw tr w0 w1 w2 w3 w4 w5 mo Akd Amo Ast Aro Atp Acd Asr Air Aih Ass Asq Ace Alw Awo Ahe Ask Ana Akp Agb Ago Afa Aga Avo fc fe fn fw tx fcr0 fcr1 fcr2 fcr3 fcr4 fcr5 fer0 fer1 fer2 fer3 fer4 fer5 him x2 x3 x4 x5 td fb wr fsk jg pb lw fnm fso fmi fpa fki fmo fsz frd tj tb tl unm uso umi upa uki umo usz urd kj kb kl gnm gso gmi gpa gki gmo gsz grd fs0 fs1 fs2 fs3 fqo fql fw0 fw1 fw2 fw3 fw4 fw5 ftr Npb Njg Ntd Ntx Nru Zhi Z19 Z20 Z21 Z22 Z25 Z26 Z27 Z31 Z32 Z33 Z34 Z39 Z40 Fkd Fmo Fst Fro Ftp Fcd Fsr Fir Fih Fss Fsq Fce Flw Fwo Fhe Fsk Fna Fkp Fgb Fgo Ffa Fga Fvo) → va_S A s.heap H locs → lv_has ls 4 [zI 3 (nI (7 * i7)), zR 2 mo, zR 1 xo, zR 0 b] → W p l e room_1 s m #[Value.ref b] below meth c H locs 87 4128 (lw_Z below #[Value.ref b] s) (F0 m 18 ls [])
def LawK (p : Program) (l : Launch) (e : Env) (s : State) (m : MethodId) (below : List Frame) (meth : Method) (c : Code) (b : Nat) (G : gG) (A : Nat → Prop) (xo tt rd nw th kp sh tu b0 co en sk c0 c1 c2 c3 c4 c5 e0 e1 e2 e3 e4 e5 n1 n2 n3 n4 n5 n6 n7 n8 t1 t2 t3 t4 t5 t6 t7 t8 k1 k2 k3 k4 k5 k6 k7 k8 qn qo ql r0 r1 r2 r3 tw tr w0 w1 w2 w3 w4 w5 mo Akd Amo Ast Aro Atp Acd Asr Air Aih Ass Asq Ace Alw Awo Ahe Ask Ana Akp Agb Ago Afa Aga Avo : Nat) (fc fe fn fw : Nat → Option Nat) (i7 : Nat) : Prop := ∀ (tx : Nat) (fcr0 fcr1 fcr2 fcr3 fcr4 fcr5 : Nat → Int32) (fer0 fer1 fer2 fer3 fer4 fer5 : Nat → Nat), (∀ t, t < tx → mWx (cAt fcr0 fcr1 fcr2 fcr3 fcr4 fcr5 t) (eAt fer0 fer1 fer2 fer3 fer4 fer5 t)) → LawV p l e s m below meth c b G A xo tt rd nw th kp sh tu b0 co en sk c0 c1 c2 c3 c4 c5 e0 e1 e2 e3 e4 e5 n1 n2 n3 n4 n5 n6 n7 n8 t1 t2 t3 t4 t5 t6 t7 t8 k1 k2 k3 k4 k5 k6 k7 k8 qn qo ql r0 r1 r2 r3 tw tr w0 w1 w2 w3 w4 w5 mo Akd Amo Ast Aro Atp Acd Asr Air Aih Ass Asq Ace Alw Awo Ahe Ask Ana Akp Agb Ago Afa Aga Avo fc fe fn fw tx fcr0 fcr1 fcr2 fcr3 fcr4 fcr5 fer0 fer1 fer2 fer3 fer4 fer5 i7
/-! what holds of the world at every turn, behind each call -/
theorem f5_add {td : Nat} (h : td ≤ 160) : m_X1_addg_h06 td ≤ 160 := by
  unfold m_X1_addg_h06
  by_cases c : 160 ≤ nI td
  · rw [if_pos c]; exact h
  · rw [if_neg c]
    have := nI_le0 (a := 160) (b := td) (by omega) (by omega) c
    omega
theorem f5_feedp {v1 v2 v3 v4 v5 : Int32} : ∀ (q k : Nat) (y : Nat → Int32) (td : Nat), td ≤ 160 → (p_X5_feed_72 v1 v2 v3 v4 v5 q k y td).2.2 ≤ 160
  | 0, k, y, td, h => h
  | q + 1, k, y, td, h => by
    rw [p_X5_feed_72]
    repeat' split
    all_goals exact f5_feedp q _ _ _ (f5_add h)
theorem f6_feedp {v1 v2 v3 v4 v5 : Int32} : ∀ (q k : Nat) (y : Nat → Int32) (td : Nat), (p_X6_feed_68 v1 v2 v3 v4 v5 q k y td).2.2 = td + q
  | 0, k, y, td => rfl
  | q + 1, k, y, td => by
    rw [p_X6_feed_68]
    repeat' split
    all_goals
      rw [f6_feedp q _ _ _]
      omega
theorem f5_pbp {fql : Nat → Nat} {frr : Nat → Int32} {sn : Nat} {v2 : Int32} : ∀ (q k cm : Nat) (a b c d : Nat → Int32) (pb : Nat), pb ≤ 6 → (p_X5_pebblesBy_A_70 fql frr sn v2 q k cm a b c d pb).2.2.2.2.2.2 ≤ 6
  | 0, k, cm, a, b, c, d, pb, h => h
  | q + 1, k, cm, a, b, c, d, pb, h => by
    rw [p_X5_pebblesBy_A_70]
    repeat' split
    · exact f5_pbp q _ _ _ _ _ _ _ (X5_pebble_le h)
    · exact f5_pbp q _ _ _ _ _ _ _ (X5_pebble_le h)
    · exact h
theorem f6_pbp {fsq : Nat → Nat} {fce : Nat → Int32} {v0 v2 : Int32} : ∀ (q k : Nat) (cm : Int32) (a b c : Nat → Int32) (pb : Nat), pb ≤ 6 → (p_X6_pebblesBy_64 fsq fce v0 v2 q k cm a b c pb).2.2.2.2.2 ≤ 6
  | 0, k, cm, a, b, c, pb, h => h
  | q + 1, k, cm, a, b, c, pb, h => by
    rw [p_X6_pebblesBy_64]
    repeat' split
    · exact h
    · exact h
    · exact f6_pbp q _ _ _ _ _ _ (X6_pebble_le h)
    · exact f6_pbp q _ _ _ _ _ _ (X6_pebble_le h)
    · exact h
section FX
variable {jg pb lw kj kb kl tx td : Nat} {him : Int32} {fql : Nat → Nat} {v1 v2 v3 v4 v5 v6 : Int32}
theorem fx_judge (h : FXP jg pb lw kj kb kl tx td him fql) : FXP (m_X5_judge_nw9 jg v1) pb lw kj kb kl tx td him fql := by
  obtain ⟨⟨h1, h2⟩, h3⟩ := h
  refine ⟨⟨?_, h2⟩, h3⟩
  unfold m_X5_judge_nw9 m_X0_addJudge_h09
  repeat' split
  · rename_i c
    have := nI_lt1 (a := jg) (b := 4) (by omega) (by omega) c
    omega
  all_goals exact h1
theorem fx_feed {fb : Nat → Int32} (h : FXP jg pb lw kj kb kl tx td him fql) : FXP jg pb lw kj kb kl tx (m_X5_feed_rd6 td fb v1 v2 v3 v4 v5 v6) him fql := by
  obtain ⟨⟨h1, h2, h3, h4, h5⟩, h6⟩ := h
  refine ⟨⟨h1, h2, h3, h4, ?_⟩, h6⟩
  unfold m_X5_feed_rd6 g_X5_feed_72
  repeat' split
  all_goals first
    | exact h5
    | exact f5_feedp _ _ _ _ h5
theorem fx_force (h : FXP jg pb lw kj kb kl tx td him fql) : FXP jg pb (m_X5_force_nw11 lw tx v1) kj kb kl tx td him fql := by
  obtain ⟨⟨h1, h2, h3, h4, h5⟩, h6⟩ := h
  refine ⟨⟨h1, h2, ?_, h4, h5⟩, h6⟩
  unfold m_X5_force_nw11
  repeat' split
  · exact h3
  · rename_i c
    exact nI_lt1 (nC_31 _) (by omega) c
  · exact h3
theorem fx_pebble (h : FXP jg pb lw kj kb kl tx td him fql) : FXP jg (m_X5_pebble_nw10 pb v1 v2) lw kj kb kl tx td him fql := by
  obtain ⟨⟨h1, h2, h3⟩, h6⟩ := h
  exact ⟨⟨h1, X5_pebble_le h2, h3⟩, h6⟩
theorem fx_pebblesBy {fki fmo fsz frd fqo frr : Nat → Int32} {sn : Nat} (h : FXP jg pb lw kj kb kl tx td him fql) : FXP jg (m_X5_pebblesBy_A_nw10 pb fql fki fmo fsz frd fqo frr sn v2 v3 v4) lw kj kb kl tx td him fql := by
  obtain ⟨⟨h1, h2, h3⟩, h6⟩ := h
  refine ⟨⟨h1, ?_, h3⟩, h6⟩
  unfold m_X5_pebblesBy_A_nw10 g_X5_pebblesBy_A_70
  repeat' split
  all_goals first
    | exact h2
    | exact f5_pbp _ _ _ _ _ _ _ _ h2
theorem fx_image (h : FXP jg pb lw kj kb kl tx td him fql) : FXP jg pb lw jg pb lw tx td 1 fql := by
  obtain ⟨⟨h1, h2, h3, h4, h5⟩, h6, h7⟩ := h
  exact ⟨⟨h1, h2, h3, h4, h5⟩, Or.inr ⟨h1, h2, h3⟩, h7⟩
theorem fx_back (h : FXP jg pb lw kj kb kl tx td him fql) : FXP (m_X5_back_nw9 jg kj him) (m_X5_back_nw10 pb kb him) (m_X5_back_nw11 lw kl him) kj kb kl tx td him fql := by
  obtain ⟨⟨h1, h2, h3, h4, h5⟩, h6, h7⟩ := h
  unfold m_X5_back_nw9 m_X5_back_nw10 m_X5_back_nw11
  by_cases c : him = 0
  · rw [if_pos c, if_pos c, if_pos c]
    exact ⟨⟨h1, h2, h3, h4, h5⟩, h6, h7⟩
  · rw [if_neg c, if_neg c, if_neg c]
    obtain ⟨a1, a2, a3⟩ := h6.resolve_left c
    exact ⟨⟨a1, a2, a3, h4, h5⟩, h6, h7⟩
theorem updN_40 {g : Nat → Nat} {k x : Nat} (h : ∀ q9, q9 < 4 → g q9 ≤ 40) (hx : x ≤ 40) : ∀ q9, q9 < 4 → updN g k x q9 ≤ 40 := by
  intro q hq
  unfold updN
  by_cases c : q = k
  · rw [if_pos c]; exact hx
  · rw [if_neg c]; exact h q hq
theorem fx_sheet {sn : Nat} (h : FXP jg pb lw kj kb kl tx td him fql) : FXP jg pb lw kj kb kl tx td him (m_X5_sheet_A_ql fql sn v2 v3) := by
  obtain ⟨h1, h6, h7⟩ := h
  refine ⟨h1, h6, ?_⟩
  unfold m_X5_sheet_A_ql
  repeat' split
  all_goals first
    | exact h7
    | exact updN_40 h7 (by omega)
    | (rename_i c1 c2
       exact updN_40 h7 (nC_le (n := 40) (by omega) ⟨c2, c1⟩))
theorem fx_film {sn : Nat} (h : FXP jg pb lw kj kb kl tx td him fql) : FXP jg pb lw kj kb kl tx td him (m_X5_film_A_ql jg pb fql sn v2 v3) := by
  obtain ⟨h1, h6, h7⟩ := h
  refine ⟨h1, h6, ?_⟩
  unfold m_X5_film_A_ql
  repeat' split
  all_goals first
    | exact h7
    | exact updN_40 h7 (by omega)
theorem fx_text {t9 : Nat} {y9 : Nat → Int32} {g9 : Nat → Nat} (h : FXP jg pb lw kj kb kl tx td him fql) (h6 : tx < 6) (h9 : t9 = tx ∨ (t9 = tx + 1 ∧ mWx y9 g9)) : FXP jg pb lw kj kb kl t9 0 him fql := by
  obtain ⟨⟨h1, h2, h3, h4, h5⟩, h6, h7⟩ := h
  refine ⟨⟨h1, h2, by omega, by omega, by omega⟩, h6.imp id (fun z => ⟨z.1, z.2.1, by omega⟩), h7⟩
end FX
section FM
variable {Npb Njg Ntd Ntx Nru : Nat} {Zhi : Int32} {Fcd : Nat → Int32} {Fsr Fsq : Nat → Nat} {Fir Fih : Nat → Int32} {v1 v2 v3 v4 v5 v6 : Int32}
theorem fm_judge (h : FMP Npb Njg Ntd Ntx Nru Zhi Fcd Fsr Fsq Fir Fih) : FMP Npb (m_X6_judge_h04 Njg v1) Ntd Ntx Nru Zhi Fcd Fsr Fsq Fir Fih := by
  obtain ⟨⟨h1, h2, h3⟩, h4⟩ := h
  refine ⟨⟨h1, ?_, h3⟩, h4⟩
  unfold m_X6_judge_h04
  repeat' split
  · exact h2
  · rename_i c
    have := nI_eq0 (a := Njg) (b := 4) (by omega) (by omega) c
    omega
  · exact h2
theorem fm_feed {Ftp : Nat → Int32} (h : FMP Npb Njg Ntd Ntx Nru Zhi Fcd Fsr Fsq Fir Fih) : FMP Npb Njg (m_X6_feed_h07 Ntd Ftp v1 v2 v3 v4 v5 v6) Ntx Nru Zhi Fcd Fsr Fsq Fir Fih := by
  obtain ⟨⟨h1, h2, h3, h4, h5⟩, h6⟩ := h
  refine ⟨⟨h1, h2, h3, h4, ?_⟩, h6⟩
  unfold m_X6_feed_h07 g_X6_feed_68
  by_cases c1 : 1 ≤ v1 ∧ v1 ≤ 5
  · rw [if_pos c1]
    repeat' split
    · rename_i c
      rw [f6_feedp]
      have a := nC_31 v1
      have b : nC v1 ≤ 5 := nC_le (n := 5) (by omega) ⟨nC_1 c1.1, c1.2⟩
      have := nI_le1 (a := Ntd + nC v1) (b := 160) (by omega) (by omega) c
      omega
    all_goals exact h5
  · rw [if_neg c1]; exact h5
theorem fm_force (h : FMP Npb Njg Ntd Ntx Nru Zhi Fcd Fsr Fsq Fir Fih) : FMP Npb Njg Ntd Ntx (m_X6_force_h011 Ntx Nru v1) Zhi Fcd Fsr Fsq Fir Fih := by
  obtain ⟨⟨h1, h2, h3, h4, h5⟩, h6⟩ := h
  refine ⟨⟨h1, h2, ?_, h4, h5⟩, h6⟩
  unfold m_X6_force_h011
  by_cases c : 0 ≤ v1 ∧ v1 ≤ nI (Ntx - 1)
  · rw [if_pos c]
    have := nC_le (n := Ntx - 1) (by omega) c
    omega
  · rw [if_neg c]; exact h3
theorem fm_pebble (h : FMP Npb Njg Ntd Ntx Nru Zhi Fcd Fsr Fsq Fir Fih) : FMP (m_X6_pebble_h00 Npb v1 v2) Njg Ntd Ntx Nru Zhi Fcd Fsr Fsq Fir Fih := by
  obtain ⟨⟨h1, h2⟩, h4⟩ := h
  exact ⟨⟨X6_pebble_le h1, h2⟩, h4⟩
theorem fm_pebblesBy {Fss Fce Fkd Fmo Fst : Nat → Int32} (h : FMP Npb Njg Ntd Ntx Nru Zhi Fcd Fsr Fsq Fir Fih) : FMP (m_X6_pebblesBy_h00 Npb Fss Fsq Fce Fkd Fmo Fst v1 v2 v3 v4) Njg Ntd Ntx Nru Zhi Fcd Fsr Fsq Fir Fih := by
  obtain ⟨⟨h1, h2⟩, h4⟩ := h
  refine ⟨⟨?_, h2⟩, h4⟩
  unfold m_X6_pebblesBy_h00 g_X6_pebblesBy_64
  repeat' split
  all_goals first
    | exact h1
    | exact f6_pbp _ _ _ _ _ _ _ h1
theorem fm_sheet (h : FMP Npb Njg Ntd Ntx Nru Zhi Fcd Fsr Fsq Fir Fih) : FMP Npb Njg Ntd Ntx Nru Zhi Fcd Fsr (m_X6_sheet_sq Fsq v1 v2 v3) Fir Fih := by
  obtain ⟨h1, h2, h3, h4⟩ := h
  refine ⟨h1, h2, ?_, h4⟩
  unfold m_X6_sheet_sq
  repeat' split
  all_goals first
    | exact h3
    | exact updN_40 h3 (by omega)
    | (rename_i c1 c2
       exact updN_40 h3 (nC_le (n := 40) (by omega) ⟨c2, c1⟩))
theorem fm_film (h : FMP Npb Njg Ntd Ntx Nru Zhi Fcd Fsr Fsq Fir Fih) : FMP Npb Njg Ntd Ntx Nru Zhi Fcd Fsr (m_X6_film_sq Npb Njg Fsq v1 v2 v3) Fir Fih := by
  obtain ⟨⟨h1, h0⟩, h2, h3, h4⟩ := h
  refine ⟨⟨h1, h0⟩, h2, ?_, h4⟩
  unfold m_X6_film_sq
  repeat' split
  all_goals first
    | exact h3
    | exact updN_40 h3 (by omega)
theorem fm_image {Fro Fst : Nat → Int32} (h : FMP Npb Njg Ntd Ntx Nru Zhi Fcd Fsr Fsq Fir Fih) : FMP Npb Njg Ntd Ntx Nru 1 Fcd Fsr Fsq (mKeep Fro Fst) (mHold (nI Npb) (nI Njg) (nI Nru)) := by
  obtain ⟨⟨h1, h0, h5, h6⟩, h2, h3, h4⟩ := h
  exact ⟨⟨h1, h0, h5, h6⟩, h2, h3, Or.inr ⟨rfl, _, _, _, _, _, rfl, rfl, h1, h0, h5⟩⟩
theorem fm_back {ga6 gb6 : Nat → Int32} {ip ij il : Nat} (hip : ip ≤ 6) (hij : ij ≤ 4) (hil : il < Ntx) (h : FMP Npb Njg Ntd Ntx Nru 1 Fcd Fsr Fsq (mKeep ga6 gb6) (mHold (nI ip) (nI ij) (nI il))) : FMP ip ij Ntd Ntx il 1 Fcd Fsr Fsq (mKeep ga6 gb6) (mHold (nI ip) (nI ij) (nI il)) := by
  obtain ⟨⟨h1, h0, h5, h6⟩, h2⟩ := h
  exact ⟨⟨hip, hij, hil, h6⟩, h2⟩
theorem fm_text {ztx : Nat} {ycd : Nat → Int32} {ysr : Nat → Nat} (h : FMP Npb Njg Ntd Ntx Nru Zhi Fcd Fsr Fsq Fir Fih) (h6 : Ntx < 6) (hu : ∀ i, i < 200 * Ntx → ycd i = Fcd i) (hs : ∀ i, i < 4 * Ntx → ysr i = Fsr i) (hz : (ztx = Ntx + 1 ∧ mWf ycd ysr Ntx) ∨ ztx = Ntx) : FMP Npb Njg 0 ztx Nru Zhi ycd ysr Fsq Fir Fih := by
  obtain ⟨⟨h1, h0, h5, h7, h8⟩, h2, h3, h4⟩ := h
  refine ⟨⟨h1, h0, by omega, by omega, by omega⟩, fun t ht => ?_, h3, ?_⟩
  · by_cases c : t < Ntx
    · exact mWf_keep (h2 t c) c hu hs
    · rcases hz with ⟨z1, z2⟩ | z
      · have e : t = Ntx := by omega
        subst e
        exact z2
      · omega
  · rcases h4 with e | ⟨e, ga, gb, ip, ij, il, a1, a2, a3, a4, a5⟩
    · exact Or.inl e
    · exact Or.inr ⟨e, ga, gb, ip, ij, il, a1, a2, a3, a4, by omega⟩
end FM
theorem hd_le {L k : Nat} (hL : L ≤ 3584) (hk : k ≤ L) (h : ¬ nI L - 7 < nI k) : k + 7 ≤ L := by
  rcases Nat.lt_or_ge L (k + 7) with z | z
  · exfalso
    refine h (Int32.lt_iff_toInt_lt.mpr ?_)
    have a : (nI L - nI 7).toInt = (L : Int) - (7 : Nat) := pk_sub_toInt (by omega) (by omega)
    have b : (nI k).toInt = (k : Int) := nI_toInt (by omega)
    have e : nI L - 7 = nI L - nI 7 := rfl
    rw [e, a, b]
    omega
  · exact z
theorem sheet_same {sn : Nat} {v1 v2 : Int32} (hsn : sn < 4) : m_X5_sheet_A v1 v2 = m_X6_sheet (nI sn) v1 v2 := by
  unfold m_X5_sheet_A m_X6_sheet
  have a : 0 ≤ nI sn ∧ nI sn ≤ 3 := ⟨nI_pos' (by omega), nI_le (b := 3) (by omega) (by omega)⟩
  rw [if_pos a]
  by_cases c1 : v1 < (-1)
  · rw [if_pos c1, if_neg (fun z => absurd z.1 (Int32.not_le.mpr c1))]
  · rw [if_neg c1]
    by_cases c2 : v1 ≤ 2
    · rw [if_pos c2, if_pos (show (-1) ≤ v1 ∧ v1 ≤ 2 from ⟨Int32.not_lt.mp c1, c2⟩)]
    · rw [if_neg c2, if_neg (fun z => c2 z.2)]
theorem sheet_same_B {v0 v1 v2 : Int32} (hno : ¬ (0 ≤ v0 ∧ v0 ≤ 3)) : (-2 : Int32) = m_X6_sheet v0 v1 v2 := by
  unfold m_X6_sheet
  rw [if_neg hno]
