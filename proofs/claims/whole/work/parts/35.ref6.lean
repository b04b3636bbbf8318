/-! the reference: setting the text -/
def LnR (ll lt : Nat → Int32) (T : List Nat) (ps : List Pl) : Prop := ps.map (fun q => q.1) = T ∧ (∀ q ∈ ps, q.1 < 27 ∧ q.2.1 < 27 ∧ q.2.2 < 2) ∧ ∀ (i : Nat) (hi : i < ps.length), ll i = nI ps[i].2.1 ∧ lt i = nI ps[i].2.2
theorem LnR.snoc {ll lt : Nat → Int32} {T : List Nat} {ps : List Pl} {x y z : Nat} (h : LnR ll lt T ps) (hx : x < 27) (hy : y < 27) (hz : z < 2) : LnR (upd ll T.length (nI y)) (upd lt T.length (nI z)) (T ++ [x]) (ps ++ [(x, y, z)]) := by
  obtain ⟨h1, h2, h3⟩ := h
  have hl : ps.length = T.length := by rw [← h1, List.length_map]
  refine ⟨by rw [List.map_append, h1]; rfl, fun q hq => ?_, fun i hi => ?_⟩
  · rcases List.mem_append.mp hq with k | k
    · exact h2 q k
    · rw [List.mem_singleton.mp k]; exact ⟨hx, hy, hz⟩
  · by_cases e : i = ps.length
    · subst e
      rw [List.getElem_concat_length rfl, hl, pk_us, pk_us]
      exact ⟨rfl, rfl⟩
    · rw [List.length_append, List.length_singleton] at hi
      have hi2 : i < ps.length := by omega
      rw [List.getElem_append_left hi2, pk_un (by omega), pk_un (by omega)]
      exact h3 i hi2
def SetsP (c : Nat → VC) (f vs as tx rw : Nat → Int32) (n tl th : Int32) (T : List Nat) (o : Option (Bx × List Pl)) (v : Value) (c' : Nat → VC) : Prop := match o with
  | none => v = .int (nI 0) ∧ ∃ f' ll' lt', RH c' f' vs as tx rw ll' lt' n tl th ∧ FrR c c' ∧ ∀ k, 527 ≤ k → f' k = f k
  | some r => v = .int (nI 1) ∧ ∃ f' ll' lt', RH c' f' vs as tx rw ll' lt' n tl th ∧ FrR c c' ∧ (∀ k, 527 ≤ k → f' k = f k) ∧ BoxR f' r.1 ∧ LnR ll' lt' T r.2
theorem setT_step {B : Bx} {x b y : Nat} {l T : List Nat} {ps : List Pl} (hb : srcOf B x = b) (hl : B b = l ++ [y]) : (setT (x :: T) B).map (fun r => (r.1, ps ++ r.2)) = (setT T (uf B b l)).map (fun r => (r.1, (ps ++ [(x, y, flg B x)]) ++ r.2)) := by
  have e1 : (B b).getLast? = some y := by rw [hl]; simp
  have e2 : (B b).dropLast = l := by rw [hl]; simp
  simp only [setT, hb, e1, e2]
  cases setT T (uf B b l) with
  | none => rfl
  | some r => simp
theorem setT_non {B : Bx} {x : Nat} {T : List Nat} (h : B (srcOf B x) = []) : setT (x :: T) B = none := by
  simp only [setT, h, List.getLast?_nil]
theorem lend26 {B : Bx} (h : B 26 = []) : ∀ n, n ≤ 27 → lendN B 26 n = 26
  | 0, _ => rfl
  | n + 1, hn => by
    rw [lend_eq, lend26 h n (by omega)]
    intro z
    have h1 := z.1
    rw [lend26 h n (by omega)] at z
    have h2 := z.2
    by_cases q : n = 26
    · subst q; omega
    · unfold wd at h1
      rw [if_neg (by omega : ¬ (26 = 5 ∨ 26 = 8 ∨ 26 = 9 ∨ 26 = 11 ∨ 26 = 19)), if_neg (by omega : ¬ (26 = 12 ∨ 26 = 22)), if_pos rfl] at h1
      split at h1
      · omega
      · split at h1
        · omega
        · first
          | omega
          | (split at h1 <;> omega)
theorem TxR.mid {tx : Nat → Int32} {T T1 T3 : List Nat} {x : Nat} (h : TxR tx T) (e : T = T1 ++ x :: T3) : T1.length < T.length ∧ T.length ≤ 16 ∧ tx T1.length = nI x ∧ x < 27 := by
  subst e
  obtain ⟨h1, h2, h3⟩ := h
  have hl : T1.length < (T1 ++ x :: T3).length := by simp
  refine ⟨hl, h1, ?_, h2 x (by simp)⟩
  have := h3 T1.length hl
  rw [this]
  simp
set_option maxRecDepth 20000 in
set_option maxHeartbeats 2000000 in
theorem l_X5_sets {c : Nat → VC} {g : VG} {f vs as tx rw : Nat → Int32} {n th : Int32} {T : List Nat} (hT0 : T ≠ []) (hX0 : TxR tx T) : ∀ (T3 T1 : List Nat), T = T1 ++ T3 → ∀ (c1 : Nat → VC) (d9 l9 t9 : Nat → Int32) (B1 : Bx) (ps1 : List Pl) (o2 o3 : Option Value), RH c1 d9 vs as tx rw l9 t9 n (nI T.length) th → FrR c c1 → BoxR d9 B1 → (∀ k, 527 ≤ k → d9 k = f k) → LnR l9 t9 T1 ps1 → Xm M_X5_sets 2 [some (.ref 456), some (.int (nI T1.length)), o2, o3] [] (g, c1) (Ei g (SetsP c f vs as tx rw n (nI T.length) th T ((setT T3 B1).map (fun r => (r.1, ps1 ++ r.2))))) := by
  intro T3
  induction T3 with
  | nil =>
    intro T1 z1 c1 d9 l9 t9 B1 ps1 o2 o3 hR1 hF1 hB1 hd hLn
    rw [List.append_nil] at z1
    subst z1
    have m1 : 0 < T.length := List.length_pos_iff.mpr hT0
    have m2 := hX0.1
    obtain ⟨hO, hA, hS, hD, hX, hW, hL, hT⟩ := id hR1
    refine x_iload_n dX5_sets_2 rfl ?_
    refine x_aload_n dX5_sets_3 rfl ?_
    refine x_getfield dX5_sets_4 rfl (by decide) (by first | assumption | (simp (disch := omega) only [up_s, up_n]; first | assumption | rfl)) rfl ?_
    refine x_icmp_ge 113 dX5_sets_7 (by decide) (fun c7 => ?_) (fun c7 => ?_)
    · refine x_aload_n dX5_sets_113 rfl ?_
      refine x_getfield dX5_sets_114 rfl (by decide) (by first | assumption | (simp (disch := omega) only [up_s, up_n]; first | assumption | rfl)) rfl ?_
      refine x_if_le 124 dX5_sets_117 (by decide) (fun c117 => ?_) (fun c117 => ?_)
      · exact absurd ((nI_leI (b := 0) (by omega) (by omega)).mp c117) (by omega)
      · refine x_iconst (nI 1) dX5_sets_120 (by decide) ?_
        refine x_goto 125 dX5_sets_121 (by decide) ?_
        refine x_ireturn dX5_sets_125 ?_
        exact ⟨_, _, rfl, rfl, rfl, d9, l9, t9, hR1, hF1, hd, hB1, by show LnR l9 t9 T (ps1 ++ []); rw [List.append_nil]; exact hLn⟩
    · exact absurd (Int32.le_refl _) c7
  | cons x T3 ih =>
    intro T1 z1 c1 d9 l9 t9 B1 ps1 o2 o3 hR1 hF1 hB1 hd hLn
    obtain ⟨hO, hA, hS, hD, hX, hW, hL, hT⟩ := id hR1
    obtain ⟨m1, m2, m3, hx27⟩ := hX0.mid z1
    by_cases hE : B1 x = []
    · by_cases h26 : x = 26
      · subst h26
        have hso : B1 (srcOf B1 26) = [] := by
          unfold srcOf
          rw [if_pos hE, lend26 hE 27 (by omega)]
          exact hE
        rw [setT_non hso]
        refine x_iload_n dX5_sets_2 rfl ?_
        refine x_aload_n dX5_sets_3 rfl ?_
        refine x_getfield dX5_sets_4 rfl (by decide) (by first | assumption | (simp (disch := omega) only [up_s, up_n]; first | assumption | rfl)) rfl ?_
        refine x_icmp_ge 113 dX5_sets_7 (by decide) (fun c7 => ?_) (fun c7 => ?_)
        · exact absurd ((nI_leI (by omega) (by omega)).mp c7) (by omega)
        · refine x_aload_n dX5_sets_10 rfl ?_
          refine x_getfield dX5_sets_11 rfl (by decide) (by first | assumption | (simp (disch := omega) only [up_s, up_n]; first | assumption | rfl)) rfl ?_
          refine x_sipush (nI 500) dX5_sets_14 (by decide) ?_
          refine x_aload_n dX5_sets_17 rfl ?_
          refine x_getfield dX5_sets_18 rfl (by decide) (by first | assumption | (simp (disch := omega) only [up_s, up_n]; first | assumption | rfl)) rfl ?_
          refine x_iload_n dX5_sets_21 rfl ?_
          refine x_ialoadN dX5_sets_22 (by first | assumption | (simp (disch := omega) only [up_s, up_n]; first | assumption | rfl)) (by omega) (by omega) ?_
          rw [m3]
          refine x_iaddN dX5_sets_23 ?_
          refine x_ialoadN dX5_sets_24 (by first | assumption | (simp (disch := omega) only [up_s, up_n]; first | assumption | rfl)) (by omega) (by omega) ?_
          refine x_iconst (-1) dX5_sets_25 (by decide) ?_
          refine x_icmp_eq 33 dX5_sets_26 (by decide) (fun c26 => ?_) (fun c26 => ?_)
          · refine x_iconst (nI 0) dX5_sets_33 (by decide) ?_
            refine x_istore_n2 dX5_sets_34 rfl ?_
            refine x_iload_n dX5_sets_35 rfl ?_
            refine x_if_eq 48 dX5_sets_36 (by decide) (fun c36 => ?_) (fun c36 => ?_)
            · refine x_aload_n dX5_sets_48 rfl ?_
              refine x_getfield dX5_sets_49 rfl (by decide) (by first | assumption | (simp (disch := omega) only [up_s, up_n]; first | assumption | rfl)) rfl ?_
              refine x_iload_n dX5_sets_52 rfl ?_
              refine x_ialoadN dX5_sets_53 (by first | assumption | (simp (disch := omega) only [up_s, up_n]; first | assumption | rfl)) (by omega) (by omega) ?_
              rw [m3]
              refine x_bipush (nI 26) dX5_sets_54 (by decide) ?_
              refine x_icmp_ne 63 dX5_sets_56 (by decide) (fun c56 => ?_) (fun c56 => ?_)
              · exact absurd rfl c56
              · refine x_iconst (-1) dX5_sets_59 (by decide) ?_
                refine x_goto 73 dX5_sets_60 (by decide) ?_
                refine x_istore_n3 dX5_sets_73 rfl ?_
                refine x_iload_n dX5_sets_74 rfl ?_
                refine x_iconst (-1) dX5_sets_75 (by decide) ?_
                refine x_icmp_ne 81 dX5_sets_76 (by decide) (fun c76 => ?_) (fun c76 => ?_)
                · exact absurd rfl c76
                · refine x_iconst (nI 0) dX5_sets_79 (by decide) ?_
                  refine x_ireturn dX5_sets_80 ?_
                  exact ⟨_, _, rfl, rfl, rfl, d9, l9, t9, hR1, hF1, hd⟩
            · exact absurd rfl c36
          · exact absurd ((hB1.topE hx27).mpr hE) c26
      · have hsb : srcOf B1 x = lendN B1 x 26 := by
          unfold srcOf
          rw [if_pos hE, lend27 (by omega)]
        have hfl : flg B1 x = 1 := by unfold flg; rw [if_pos hE]
        have hb27 : lendN B1 x 26 < 27 := lendN_lt hx27 (by omega)
        by_cases hE2 : B1 (lendN B1 x 26) = []
        · have hlv : lendV B1 x 26 = -1 := by unfold lendV; rw [if_pos hE2]
          rw [setT_non (by rw [hsb]; exact hE2)]
          refine x_iload_n dX5_sets_2 rfl ?_
          refine x_aload_n dX5_sets_3 rfl ?_
          refine x_getfield dX5_sets_4 rfl (by decide) (by first | assumption | (simp (disch := omega) only [up_s, up_n]; first | assumption | rfl)) rfl ?_
          refine x_icmp_ge 113 dX5_sets_7 (by decide) (fun c7 => ?_) (fun c7 => ?_)
          · exact absurd ((nI_leI (by omega) (by omega)).mp c7) (by omega)
          · refine x_aload_n dX5_sets_10 rfl ?_
            refine x_getfield dX5_sets_11 rfl (by decide) (by first | assumption | (simp (disch := omega) only [up_s, up_n]; first | assumption | rfl)) rfl ?_
            refine x_sipush (nI 500) dX5_sets_14 (by decide) ?_
            refine x_aload_n dX5_sets_17 rfl ?_
            refine x_getfield dX5_sets_18 rfl (by decide) (by first | assumption | (simp (disch := omega) only [up_s, up_n]; first | assumption | rfl)) rfl ?_
            refine x_iload_n dX5_sets_21 rfl ?_
            refine x_ialoadN dX5_sets_22 (by first | assumption | (simp (disch := omega) only [up_s, up_n]; first | assumption | rfl)) (by omega) (by omega) ?_
            rw [m3]
            refine x_iaddN dX5_sets_23 ?_
            refine x_ialoadN dX5_sets_24 (by first | assumption | (simp (disch := omega) only [up_s, up_n]; first | assumption | rfl)) (by omega) (by omega) ?_
            refine x_iconst (-1) dX5_sets_25 (by decide) ?_
            refine x_icmp_eq 33 dX5_sets_26 (by decide) (fun c26 => ?_) (fun c26 => ?_)
            · refine x_iconst (nI 0) dX5_sets_33 (by decide) ?_
              refine x_istore_n2 dX5_sets_34 rfl ?_
              refine x_iload_n dX5_sets_35 rfl ?_
              refine x_if_eq 48 dX5_sets_36 (by decide) (fun c36 => ?_) (fun c36 => ?_)
              · refine x_aload_n dX5_sets_48 rfl ?_
                refine x_getfield dX5_sets_49 rfl (by decide) (by first | assumption | (simp (disch := omega) only [up_s, up_n]; first | assumption | rfl)) rfl ?_
                refine x_iload_n dX5_sets_52 rfl ?_
                refine x_ialoadN dX5_sets_53 (by first | assumption | (simp (disch := omega) only [up_s, up_n]; first | assumption | rfl)) (by omega) (by omega) ?_
                rw [m3]
                refine x_bipush (nI 26) dX5_sets_54 (by decide) ?_
                refine x_icmp_ne 63 dX5_sets_56 (by decide) (fun c56 => ?_) (fun c56 => ?_)
                · refine x_aload_n dX5_sets_63 rfl ?_
                  refine x_aload_n dX5_sets_64 rfl ?_
                  refine x_getfield dX5_sets_65 rfl (by decide) (by first | assumption | (simp (disch := omega) only [up_s, up_n]; first | assumption | rfl)) rfl ?_
                  refine x_iload_n dX5_sets_68 rfl ?_
                  refine x_ialoadN dX5_sets_69 (by first | assumption | (simp (disch := omega) only [up_s, up_n]; first | assumption | rfl)) (by omega) (by omega) ?_
                  rw [m3]
                  refine x_cv2 dX5_sets_70 rfl (by first | assumption | (simp (disch := omega) only [up_s, up_n]; first | assumption | rfl)) rfl ?_
                  refine Cm.rt (s_X5_lender hO hA hB1 hx27 hE) ?_
                  rw [hlv]
                  refine x_istore_n3 dX5_sets_73 rfl ?_
                  refine x_iload_n dX5_sets_74 rfl ?_
                  refine x_iconst (-1) dX5_sets_75 (by decide) ?_
                  refine x_icmp_ne 81 dX5_sets_76 (by decide) (fun c76 => ?_) (fun c76 => ?_)
                  · exact absurd rfl c76
                  · refine x_iconst (nI 0) dX5_sets_79 (by decide) ?_
                    refine x_ireturn dX5_sets_80 ?_
                    exact ⟨_, _, rfl, rfl, rfl, d9, l9, t9, hR1, hF1, hd⟩
                · exact absurd ((nI_eq (by omega) (by omega)).mp c56) h26
              · exact absurd rfl c36
            · exact absurd ((hB1.topE hx27).mpr hE) c26
        · have hlv : lendV B1 x 26 = nI (lendN B1 x 26) := by unfold lendV; rw [if_neg hE2]
          obtain ⟨l, y, hbl⟩ : ∃ l y, B1 (lendN B1 x 26) = l ++ [y] := ⟨_, _, snoc_of (List.length_pos_iff.mpr hE2)⟩
          have hy27 : y < 27 := by
            obtain ⟨ss, hss⟩ := hB1
            exact hss.2.2.2.2.2.2 _ hb27 y (by rw [hbl]; simp)
          refine x_iload_n dX5_sets_2 rfl ?_
          refine x_aload_n dX5_sets_3 rfl ?_
          refine x_getfield dX5_sets_4 rfl (by decide) (by first | assumption | (simp (disch := omega) only [up_s, up_n]; first | assumption | rfl)) rfl ?_
          refine x_icmp_ge 113 dX5_sets_7 (by decide) (fun c7 => ?_) (fun c7 => ?_)
          · exact absurd ((nI_leI (by omega) (by omega)).mp c7) (by omega)
          · refine x_aload_n dX5_sets_10 rfl ?_
            refine x_getfield dX5_sets_11 rfl (by decide) (by first | assumption | (simp (disch := omega) only [up_s, up_n]; first | assumption | rfl)) rfl ?_
            refine x_sipush (nI 500) dX5_sets_14 (by decide) ?_
            refine x_aload_n dX5_sets_17 rfl ?_
            refine x_getfield dX5_sets_18 rfl (by decide) (by first | assumption | (simp (disch := omega) only [up_s, up_n]; first | assumption | rfl)) rfl ?_
            refine x_iload_n dX5_sets_21 rfl ?_
            refine x_ialoadN dX5_sets_22 (by first | assumption | (simp (disch := omega) only [up_s, up_n]; first | assumption | rfl)) (by omega) (by omega) ?_
            rw [m3]
            refine x_iaddN dX5_sets_23 ?_
            refine x_ialoadN dX5_sets_24 (by first | assumption | (simp (disch := omega) only [up_s, up_n]; first | assumption | rfl)) (by omega) (by omega) ?_
            refine x_iconst (-1) dX5_sets_25 (by decide) ?_
            refine x_icmp_eq 33 dX5_sets_26 (by decide) (fun c26 => ?_) (fun c26 => ?_)
            · refine x_iconst (nI 0) dX5_sets_33 (by decide) ?_
              refine x_istore_n2 dX5_sets_34 rfl ?_
              refine x_iload_n dX5_sets_35 rfl ?_
              refine x_if_eq 48 dX5_sets_36 (by decide) (fun c36 => ?_) (fun c36 => ?_)
              · refine x_aload_n dX5_sets_48 rfl ?_
                refine x_getfield dX5_sets_49 rfl (by decide) (by first | assumption | (simp (disch := omega) only [up_s, up_n]; first | assumption | rfl)) rfl ?_
                refine x_iload_n dX5_sets_52 rfl ?_
                refine x_ialoadN dX5_sets_53 (by first | assumption | (simp (disch := omega) only [up_s, up_n]; first | assumption | rfl)) (by omega) (by omega) ?_
                rw [m3]
                refine x_bipush (nI 26) dX5_sets_54 (by decide) ?_
                refine x_icmp_ne 63 dX5_sets_56 (by decide) (fun c56 => ?_) (fun c56 => ?_)
                · refine x_aload_n dX5_sets_63 rfl ?_
                  refine x_aload_n dX5_sets_64 rfl ?_
                  refine x_getfield dX5_sets_65 rfl (by decide) (by first | assumption | (simp (disch := omega) only [up_s, up_n]; first | assumption | rfl)) rfl ?_
                  refine x_iload_n dX5_sets_68 rfl ?_
                  refine x_ialoadN dX5_sets_69 (by first | assumption | (simp (disch := omega) only [up_s, up_n]; first | assumption | rfl)) (by omega) (by omega) ?_
                  rw [m3]
                  refine x_cv2 dX5_sets_70 rfl (by first | assumption | (simp (disch := omega) only [up_s, up_n]; first | assumption | rfl)) rfl ?_
                  refine Cm.rt (s_X5_lender hO hA hB1 hx27 hE) ?_
                  rw [hlv]
                  refine x_istore_n3 dX5_sets_73 rfl ?_
                  refine x_iload_n dX5_sets_74 rfl ?_
                  refine x_iconst (-1) dX5_sets_75 (by decide) ?_
                  refine x_icmp_ne 81 dX5_sets_76 (by decide) (fun c76 => ?_) (fun c76 => ?_)
                  · refine x_aload_n dX5_sets_81 rfl ?_
                    refine x_getfield dX5_sets_82 rfl (by decide) (by first | assumption | (simp (disch := omega) only [up_s, up_n]; first | assumption | rfl)) rfl ?_
                    refine x_iload_n dX5_sets_85 rfl ?_
                    refine x_aload_n dX5_sets_86 rfl ?_
                    refine x_iload_n dX5_sets_87 rfl ?_
                    refine x_cv2 dX5_sets_88 rfl (by first | assumption | (simp (disch := omega) only [up_s, up_n]; first | assumption | rfl)) rfl ?_
                    refine Cm.ei (s_X5_takes hO hA hB1 hb27 hbl) (fun v c2 q2 => ?_)
                    obtain ⟨rfl, d8, rfl, hB8, hd8⟩ := q2
                    refine x_iastoreN dX5_sets_91 (by first | assumption | (simp (disch := omega) only [up_s, up_n]; first | assumption | rfl)) (by omega) (by omega) ?_
                    refine x_aload_n dX5_sets_92 rfl ?_
                    refine x_getfield dX5_sets_93 rfl (by decide) (by first | assumption | (simp (disch := omega) only [up_s, up_n]; first | assumption | rfl)) rfl ?_
                    refine x_iload_n dX5_sets_96 rfl ?_
                    refine x_iload_n dX5_sets_97 rfl ?_
                    refine x_if_eq 105 dX5_sets_98 (by decide) (fun c98 => ?_) (fun c98 => ?_)
                    · refine x_iconst (nI 1) dX5_sets_105 (by decide) ?_
                      refine x_iastoreN dX5_sets_106 (by first | assumption | (simp (disch := omega) only [up_s, up_n]; first | assumption | rfl)) (by omega) (by omega) ?_
                      refine x_iincN_1 (1) dX5_sets_107 (by decide) rfl ?_
                      refine x_goto 2 dX5_sets_110 (by decide) ?_
                      have e8 := setT_step (T := T3) (ps := ps1) hsb hbl
                      rw [e8]
                      have hsn := hLn.snoc (x := x) (y := y) (z := flg B1 x) hx27 hy27 (by rw [hfl]; omega)
                      have hiz := ih (T1 ++ [x]) (by rw [z1]; simp)
                      rw [List.length_append, List.length_singleton] at hiz
                      rw [hfl] at hsn ⊢
                      exact hiz _ _ _ _ _ _ _ _ hR1.uA.uL.uT (((hF1.u (by omega) (by omega)).u (by omega) (by omega)).u (by omega) (by omega)) hB8 (fun k hk => by rw [hd8 k hk]; exact hd k hk) hsn
                    · exact absurd rfl c98
                  · exact absurd c76 (m1_ne (by omega))
                · exact absurd ((nI_eq (by omega) (by omega)).mp c56) h26
              · exact absurd rfl c36
            · exact absurd ((hB1.topE hx27).mpr hE) c26
    · have hsb : srcOf B1 x = x := by unfold srcOf; rw [if_neg hE]
      have hfl : flg B1 x = 0 := by unfold flg; rw [if_neg hE]
      have hb27 := hx27
      obtain ⟨l, y, hbl⟩ : ∃ l y, B1 x = l ++ [y] := ⟨_, _, snoc_of (List.length_pos_iff.mpr hE)⟩
      have hy27 : y < 27 := by
        obtain ⟨ss, hss⟩ := hB1
        exact hss.2.2.2.2.2.2 _ hb27 y (by rw [hbl]; simp)
      refine x_iload_n dX5_sets_2 rfl ?_
      refine x_aload_n dX5_sets_3 rfl ?_
      refine x_getfield dX5_sets_4 rfl (by decide) (by first | assumption | (simp (disch := omega) only [up_s, up_n]; first | assumption | rfl)) rfl ?_
      refine x_icmp_ge 113 dX5_sets_7 (by decide) (fun c7 => ?_) (fun c7 => ?_)
      · exact absurd ((nI_leI (by omega) (by omega)).mp c7) (by omega)
      · refine x_aload_n dX5_sets_10 rfl ?_
        refine x_getfield dX5_sets_11 rfl (by decide) (by first | assumption | (simp (disch := omega) only [up_s, up_n]; first | assumption | rfl)) rfl ?_
        refine x_sipush (nI 500) dX5_sets_14 (by decide) ?_
        refine x_aload_n dX5_sets_17 rfl ?_
        refine x_getfield dX5_sets_18 rfl (by decide) (by first | assumption | (simp (disch := omega) only [up_s, up_n]; first | assumption | rfl)) rfl ?_
        refine x_iload_n dX5_sets_21 rfl ?_
        refine x_ialoadN dX5_sets_22 (by first | assumption | (simp (disch := omega) only [up_s, up_n]; first | assumption | rfl)) (by omega) (by omega) ?_
        rw [m3]
        refine x_iaddN dX5_sets_23 ?_
        refine x_ialoadN dX5_sets_24 (by first | assumption | (simp (disch := omega) only [up_s, up_n]; first | assumption | rfl)) (by omega) (by omega) ?_
        refine x_iconst (-1) dX5_sets_25 (by decide) ?_
        refine x_icmp_eq 33 dX5_sets_26 (by decide) (fun c26 => ?_) (fun c26 => ?_)
        · exact absurd ((hB1.topE hx27).mp c26) hE
        · refine x_iconst (nI 1) dX5_sets_29 (by decide) ?_
          refine x_goto 34 dX5_sets_30 (by decide) ?_
          refine x_istore_n2 dX5_sets_34 rfl ?_
          refine x_iload_n dX5_sets_35 rfl ?_
          refine x_if_eq 48 dX5_sets_36 (by decide) (fun c36 => ?_) (fun c36 => ?_)
          · exact absurd c36 (by decide)
          · refine x_aload_n dX5_sets_39 rfl ?_
            refine x_getfield dX5_sets_40 rfl (by decide) (by first | assumption | (simp (disch := omega) only [up_s, up_n]; first | assumption | rfl)) rfl ?_
            refine x_iload_n dX5_sets_43 rfl ?_
            refine x_ialoadN dX5_sets_44 (by first | assumption | (simp (disch := omega) only [up_s, up_n]; first | assumption | rfl)) (by omega) (by omega) ?_
            rw [m3]
            refine x_goto 73 dX5_sets_45 (by decide) ?_
            refine x_istore_n3 dX5_sets_73 rfl ?_
            refine x_iload_n dX5_sets_74 rfl ?_
            refine x_iconst (-1) dX5_sets_75 (by decide) ?_
            refine x_icmp_ne 81 dX5_sets_76 (by decide) (fun c76 => ?_) (fun c76 => ?_)
            · refine x_aload_n dX5_sets_81 rfl ?_
              refine x_getfield dX5_sets_82 rfl (by decide) (by first | assumption | (simp (disch := omega) only [up_s, up_n]; first | assumption | rfl)) rfl ?_
              refine x_iload_n dX5_sets_85 rfl ?_
              refine x_aload_n dX5_sets_86 rfl ?_
              refine x_iload_n dX5_sets_87 rfl ?_
              refine x_cv2 dX5_sets_88 rfl (by first | assumption | (simp (disch := omega) only [up_s, up_n]; first | assumption | rfl)) rfl ?_
              refine Cm.ei (s_X5_takes hO hA hB1 hb27 hbl) (fun v c2 q2 => ?_)
              obtain ⟨rfl, d8, rfl, hB8, hd8⟩ := q2
              refine x_iastoreN dX5_sets_91 (by first | assumption | (simp (disch := omega) only [up_s, up_n]; first | assumption | rfl)) (by omega) (by omega) ?_
              refine x_aload_n dX5_sets_92 rfl ?_
              refine x_getfield dX5_sets_93 rfl (by decide) (by first | assumption | (simp (disch := omega) only [up_s, up_n]; first | assumption | rfl)) rfl ?_
              refine x_iload_n dX5_sets_96 rfl ?_
              refine x_iload_n dX5_sets_97 rfl ?_
              refine x_if_eq 105 dX5_sets_98 (by decide) (fun c98 => ?_) (fun c98 => ?_)
              · exact absurd c98 (by decide)
              · refine x_iconst (nI 0) dX5_sets_101 (by decide) ?_
                refine x_goto 106 dX5_sets_102 (by decide) ?_
                refine x_iastoreN dX5_sets_106 (by first | assumption | (simp (disch := omega) only [up_s, up_n]; first | assumption | rfl)) (by omega) (by omega) ?_
                refine x_iincN_1 (1) dX5_sets_107 (by decide) rfl ?_
                refine x_goto 2 dX5_sets_110 (by decide) ?_
                have e8 := setT_step (T := T3) (ps := ps1) hsb hbl
                rw [e8]
                have hsn := hLn.snoc (x := x) (y := y) (z := flg B1 x) hx27 hy27 (by rw [hfl]; omega)
                have hiz := ih (T1 ++ [x]) (by rw [z1]; simp)
                rw [List.length_append, List.length_singleton] at hiz
                rw [hfl] at hsn ⊢
                exact hiz _ _ _ _ _ _ _ _ hR1.uA.uL.uT (((hF1.u (by omega) (by omega)).u (by omega) (by omega)).u (by omega) (by omega)) hB8 (fun k hk => by rw [hd8 k hk]; exact hd k hk) hsn
            · exact absurd c76 (m1_ne (by omega))
set_option maxRecDepth 20000 in
set_option maxHeartbeats 2000000 in
theorem s_X5_sets {c : Nat → VC} {g : VG} {f vs as tx rw ll lt : Nat → Int32} {n th : Int32} {T : List Nat} (hR : RH c f vs as tx rw ll lt n (nI T.length) th) (hX0 : TxR tx T) {B : Bx} (hB : BoxR f B) : Cm k_X5_sets [.ref 456] (g, c) (Ei g (SetsP c f vs as tx rw n (nI T.length) th T (goesM T B))) := by
  obtain ⟨hO, hA, hS, hD, hX, hW, hL, hT⟩ := id hR
  unfold goesM
  by_cases hT0 : T = []
  · rw [if_pos hT0]
    subst hT0
    refine Cm.in (M := M_X5_sets) (ls := [some (.ref 456), none, none, none]) rfl rfl ?_
    refine x_iconst (nI 0) dX5_sets_0 (by decide) ?_
    refine x_istore_n1 dX5_sets_1 rfl ?_
    refine x_iload_n dX5_sets_2 rfl ?_
    refine x_aload_n dX5_sets_3 rfl ?_
    refine x_getfield dX5_sets_4 rfl (by decide) (by first | assumption | (simp (disch := omega) only [up_s, up_n]; first | assumption | rfl)) rfl ?_
    refine x_icmp_ge 113 dX5_sets_7 (by decide) (fun c7 => ?_) (fun c7 => ?_)
    · refine x_aload_n dX5_sets_113 rfl ?_
      refine x_getfield dX5_sets_114 rfl (by decide) (by first | assumption | (simp (disch := omega) only [up_s, up_n]; first | assumption | rfl)) rfl ?_
      refine x_if_le 124 dX5_sets_117 (by decide) (fun c117 => ?_) (fun c117 => ?_)
      · refine x_iconst (nI 0) dX5_sets_124 (by decide) ?_
        refine x_ireturn dX5_sets_125 ?_
        exact ⟨_, _, rfl, rfl, rfl, f, ll, lt, hR, FrR.rf, fun k hk => rfl⟩
      · exact absurd (Int32.le_refl _) c117
    · exact absurd (Int32.le_refl _) c7
  · rw [if_neg hT0]
    refine Cm.in (M := M_X5_sets) (ls := [some (.ref 456), none, none, none]) rfl rfl ?_
    refine x_iconst (nI 0) dX5_sets_0 (by decide) ?_
    refine x_istore_n1 dX5_sets_1 rfl ?_
    have h9 := l_X5_sets (g := g) (c := c) (f := f) hT0 hX0 T [] rfl c f ll lt B [] none none hR FrR.rf hB (fun k hk => rfl) ⟨rfl, fun q hq => absurd hq (by simp), fun i hi => absurd hi (Nat.not_lt_zero i)⟩
    have e9 : (setT T B).map (fun r => (r.1, [] ++ r.2)) = setT T B := by
      cases setT T B with
      | none => rfl
      | some r => rfl
    rw [e9] at h9
    exact h9
set_option maxRecDepth 20000 in
set_option maxHeartbeats 1000000 in
theorem l_X5_wrongInLine {c : Nat → VC} {g : VG} {f vs as tx rw ll lt : Nat → Int32} {n th : Int32} {T : List Nat} {ps : List Pl} (hR : RH c f vs as tx rw ll lt n (nI T.length) th) (hX0 : TxR tx T) (hLn : LnR ll lt T ps) : ∀ (m i : Nat), i ≤ ps.length → ps.length < i + m → Xm M_X5_wrongInLine 4 [some (.ref 456), some (.int (nI ((ps.take i).countP wrg))), some (.int (nI i))] [] (g, c) (Rt (.int (nI (ps.countP wrg))) (g, c)) := by
  obtain ⟨rfl, g2, g3⟩ := hLn
  obtain ⟨g4, g5, g6⟩ := hX0
  rw [List.length_map] at g4
  have hlm : (ps.map (fun q => q.1)).length = ps.length := List.length_map _
  rw [hlm] at hR
  obtain ⟨hO, hA, hS, hD, hX, hW, hL, hT⟩ := id hR
  intro m
  induction m with
  | zero => intro i z1 z2; omega
  | succ m ih =>
    intro i z1 z2
    refine x_iload_n dX5_wrongInLine_4 rfl ?_
    refine x_aload_n dX5_wrongInLine_5 rfl ?_
    refine x_getfield dX5_wrongInLine_6 rfl (by decide) (by first | assumption | (simp (disch := omega) only [up_s, up_n]; first | assumption | rfl)) rfl ?_
    refine x_icmp_ge 51 dX5_wrongInLine_9 (by decide) (fun c9 => ?_) (fun c9 => ?_)
    · have e1 : i = ps.length := by have := (nI_leI (by omega) (by omega)).mp c9; omega
      subst e1
      rw [List.take_length]
      refine x_iload_n dX5_wrongInLine_51 rfl ?_
      refine x_ireturn dX5_wrongInLine_52 ?_
      exact ⟨rfl, rfl⟩
    · have hi : i < ps.length := by
        by_cases q : i < ps.length
        · exact q
        · exact absurd ((nI_leI (by omega) (by omega)).mpr (by omega)) c9
      have h27 := g2 _ (List.getElem_mem hi)
      have hg3 := g3 i hi
      have hg6 := g6 i (by rw [hlm]; exact hi)
      rw [List.getElem_map] at hg6
      refine x_iload_n dX5_wrongInLine_12 rfl ?_
      refine x_aload_n dX5_wrongInLine_13 rfl ?_
      refine x_getfield dX5_wrongInLine_14 rfl (by decide) (by first | assumption | (simp (disch := omega) only [up_s, up_n]; first | assumption | rfl)) rfl ?_
      refine x_iload_n dX5_wrongInLine_17 rfl ?_
      refine x_ialoadN dX5_wrongInLine_18 (by first | assumption | (simp (disch := omega) only [up_s, up_n]; first | assumption | rfl)) (by omega) (by omega) ?_
      rw [hg3.2]
      refine x_iconst (nI 1) dX5_wrongInLine_19 (by decide) ?_
      refine x_icmp_eq 38 dX5_wrongInLine_20 (by decide) (fun c20 => ?_) (fun c20 => ?_)
      · have e9 : ps[i].2.2 = 1 := (nI_eq (by omega) (by omega)).mp c20
        have et : wrg ps[i] = true := by unfold wrg; rw [e9]; rfl
        refine x_iconst (nI 1) dX5_wrongInLine_38 (by decide) ?_
        refine x_goto 43 dX5_wrongInLine_39 (by decide) ?_
        refine x_iaddN dX5_wrongInLine_43 ?_
        refine x_istore_n1 dX5_wrongInLine_44 rfl ?_
        refine x_iincN_2 (1) dX5_wrongInLine_45 (by decide) rfl ?_
        refine x_goto 4 dX5_wrongInLine_48 (by decide) ?_
        rw [← take_cp1 (p := wrg) hi et]
        exact ih (i + 1) (by omega) (by omega)
      · have e9 : ¬ ps[i].2.2 = 1 := fun z => c20 (by rw [z])
        refine x_aload_n dX5_wrongInLine_23 rfl ?_
        refine x_getfield dX5_wrongInLine_24 rfl (by decide) (by first | assumption | (simp (disch := omega) only [up_s, up_n]; first | assumption | rfl)) rfl ?_
        refine x_iload_n dX5_wrongInLine_27 rfl ?_
        refine x_ialoadN dX5_wrongInLine_28 (by first | assumption | (simp (disch := omega) only [up_s, up_n]; first | assumption | rfl)) (by omega) (by omega) ?_
        rw [hg3.1]
        refine x_aload_n dX5_wrongInLine_29 rfl ?_
        refine x_getfield dX5_wrongInLine_30 rfl (by decide) (by first | assumption | (simp (disch := omega) only [up_s, up_n]; first | assumption | rfl)) rfl ?_
        refine x_iload_n dX5_wrongInLine_33 rfl ?_
        refine x_ialoadN dX5_wrongInLine_34 (by first | assumption | (simp (disch := omega) only [up_s, up_n]; first | assumption | rfl)) (by omega) (by omega) ?_
        rw [hg6]
        refine x_icmp_eq 42 dX5_wrongInLine_35 (by decide) (fun c35 => ?_) (fun c35 => ?_)
        · have e8 : ps[i].2.1 = ps[i].1 := (nI_eq (by omega) (by omega)).mp c35
          have ef : wrg ps[i] = false := by unfold wrg; rw [e8]; simp [e9]
          refine x_iconst (nI 0) dX5_wrongInLine_42 (by decide) ?_
          refine x_iaddN dX5_wrongInLine_43 ?_
          refine x_istore_n1 dX5_wrongInLine_44 rfl ?_
          refine x_iincN_2 (1) dX5_wrongInLine_45 (by decide) rfl ?_
          refine x_goto 4 dX5_wrongInLine_48 (by decide) ?_
          rw [Nat.add_zero, ← take_cp0 (p := wrg) hi ef]
          exact ih (i + 1) (by omega) (by omega)
        · have e8 : ¬ ps[i].2.1 = ps[i].1 := fun z => c35 (by rw [z])
          have et : wrg ps[i] = true := by unfold wrg; simp [e9, e8]
          refine x_iconst (nI 1) dX5_wrongInLine_38 (by decide) ?_
          refine x_goto 43 dX5_wrongInLine_39 (by decide) ?_
          refine x_iaddN dX5_wrongInLine_43 ?_
          refine x_istore_n1 dX5_wrongInLine_44 rfl ?_
          refine x_iincN_2 (1) dX5_wrongInLine_45 (by decide) rfl ?_
          refine x_goto 4 dX5_wrongInLine_48 (by decide) ?_
          rw [← take_cp1 (p := wrg) hi et]
          exact ih (i + 1) (by omega) (by omega)
set_option maxRecDepth 20000 in
set_option maxHeartbeats 1000000 in
theorem s_X5_wrongInLine {c : Nat → VC} {g : VG} {f vs as tx rw ll lt : Nat → Int32} {n th : Int32} {T : List Nat} {ps : List Pl} (hR : RH c f vs as tx rw ll lt n (nI T.length) th) (hX0 : TxR tx T) (hLn : LnR ll lt T ps) : Cm k_X5_wrongInLine [.ref 456] (g, c) (Rt (.int (nI (ps.countP wrg))) (g, c)) := by
  refine Cm.in (M := M_X5_wrongInLine) (ls := [some (.ref 456), none, none]) rfl rfl ?_
  refine x_iconst (nI 0) dX5_wrongInLine_0 (by decide) ?_
  refine x_istore_n1 dX5_wrongInLine_1 rfl ?_
  refine x_iconst (nI 0) dX5_wrongInLine_2 (by decide) ?_
  refine x_istore_n2 dX5_wrongInLine_3 rfl ?_
  exact l_X5_wrongInLine hR hX0 hLn (ps.length + 1) 0 (Nat.zero_le _) (by omega)
set_option maxRecDepth 20000 in
set_option maxHeartbeats 1000000 in
theorem l_X5_turnedInLine {c : Nat → VC} {g : VG} {f vs as tx rw ll lt : Nat → Int32} {n th : Int32} {T : List Nat} {ps : List Pl} (hR : RH c f vs as tx rw ll lt n (nI T.length) th) (hX0 : TxR tx T) (hLn : LnR ll lt T ps) : ∀ (m i : Nat), i ≤ ps.length → ps.length < i + m → Xm M_X5_turnedInLine 4 [some (.ref 456), some (.int (nI ((ps.take i).countP (fun q => q.2.2 == 1)))), some (.int (nI i))] [] (g, c) (Rt (.int (nI (ps.countP (fun q => q.2.2 == 1)))) (g, c)) := by
  obtain ⟨rfl, g2, g3⟩ := hLn
  obtain ⟨g4, g5, g6⟩ := hX0
  rw [List.length_map] at g4
  have hlm : (ps.map (fun q => q.1)).length = ps.length := List.length_map _
  rw [hlm] at hR
  obtain ⟨hO, hA, hS, hD, hX, hW, hL, hT⟩ := id hR
  intro m
  induction m with
  | zero => intro i z1 z2; omega
  | succ m ih =>
    intro i z1 z2
    refine x_iload_n dX5_turnedInLine_4 rfl ?_
    refine x_aload_n dX5_turnedInLine_5 rfl ?_
    refine x_getfield dX5_turnedInLine_6 rfl (by decide) (by first | assumption | (simp (disch := omega) only [up_s, up_n]; first | assumption | rfl)) rfl ?_
    refine x_icmp_ge 27 dX5_turnedInLine_9 (by decide) (fun c9 => ?_) (fun c9 => ?_)
    · have e1 : i = ps.length := by have := (nI_leI (by omega) (by omega)).mp c9; omega
      subst e1
      rw [List.take_length]
      refine x_iload_n dX5_turnedInLine_27 rfl ?_
      refine x_ireturn dX5_turnedInLine_28 ?_
      exact ⟨rfl, rfl⟩
    · have hi : i < ps.length := by
        by_cases q : i < ps.length
        · exact q
        · exact absurd ((nI_leI (by omega) (by omega)).mpr (by omega)) c9
      have h27 := g2 _ (List.getElem_mem hi)
      have hg3 := g3 i hi
      have hg6 := g6 i (by rw [hlm]; exact hi)
      rw [List.getElem_map] at hg6
      refine x_iload_n dX5_turnedInLine_12 rfl ?_
      refine x_aload_n dX5_turnedInLine_13 rfl ?_
      refine x_getfield dX5_turnedInLine_14 rfl (by decide) (by first | assumption | (simp (disch := omega) only [up_s, up_n]; first | assumption | rfl)) rfl ?_
      refine x_iload_n dX5_turnedInLine_17 rfl ?_
      refine x_ialoadN dX5_turnedInLine_18 (by first | assumption | (simp (disch := omega) only [up_s, up_n]; first | assumption | rfl)) (by omega) (by omega) ?_
      rw [hg3.2]
      refine x_iaddN dX5_turnedInLine_19 ?_
      refine x_istore_n1 dX5_turnedInLine_20 rfl ?_
      refine x_iincN_2 (1) dX5_turnedInLine_21 (by decide) rfl ?_
      refine x_goto 4 dX5_turnedInLine_24 (by decide) ?_
      by_cases e9 : ps[i].2.2 = 1
      · rw [e9, ← take_cp1 (p := fun q => q.2.2 == 1) hi (by simp [e9])]
        exact ih (i + 1) (by omega) (by omega)
      · rw [show ps[i].2.2 = 0 by omega, Nat.add_zero, ← take_cp0 (p := fun q => q.2.2 == 1) hi (by simp [e9])]
        exact ih (i + 1) (by omega) (by omega)
set_option maxRecDepth 20000 in
set_option maxHeartbeats 1000000 in
theorem s_X5_turnedInLine {c : Nat → VC} {g : VG} {f vs as tx rw ll lt : Nat → Int32} {n th : Int32} {T : List Nat} {ps : List Pl} (hR : RH c f vs as tx rw ll lt n (nI T.length) th) (hX0 : TxR tx T) (hLn : LnR ll lt T ps) : Cm k_X5_turnedInLine [.ref 456] (g, c) (Rt (.int (nI (ps.countP (fun q => q.2.2 == 1)))) (g, c)) := by
  refine Cm.in (M := M_X5_turnedInLine) (ls := [some (.ref 456), none, none]) rfl rfl ?_
  refine x_iconst (nI 0) dX5_turnedInLine_0 (by decide) ?_
  refine x_istore_n1 dX5_turnedInLine_1 rfl ?_
  refine x_iconst (nI 0) dX5_turnedInLine_2 (by decide) ?_
  refine x_istore_n2 dX5_turnedInLine_3 rfl ?_
  exact l_X5_turnedInLine hR hX0 hLn (ps.length + 1) 0 (Nat.zero_le _) (by omega)
