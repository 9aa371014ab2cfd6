/-! locals that are wanted no more may be forgotten -/
def zle : zL → zL → Prop
  | [], [] => True
  | a :: as, b :: bs => (a = b ∨ (a = none ∧ zlong? b = false)) ∧ zle as bs
  | _, _ => False
theorem zle_len : ∀ {M L : zL}, zle M L → M.length = L.length
  | [], [], _ => rfl
  | _ :: _, _ :: _, h => congrArg (· + 1) (zle_len h.2)
  | [], _ :: _, h => h.elim
  | _ :: _, [], h => h.elim
theorem zle_at : ∀ {M L : zL} (i : Nat), zle M L → zld M i = zld L i ∨ (zld M i = none ∧ zlong? (zld L i) = false)
  | [], [], i, _ => Or.inl rfl
  | a :: as, b :: bs, 0, h => by
    rcases h.1 with rfl | ⟨rfl, h2⟩
    · exact Or.inl rfl
    · refine Or.inr ⟨rfl, ?_⟩
      cases b with
      | none => rfl
      | some v => exact h2
  | a :: as, b :: bs, i + 1, h => zle_at (M := as) (L := bs) i h.2
  | [], _ :: _, _, h => h.elim
  | _ :: _, [], _, h => h.elim
theorem zle_ld {M L : zL} {i : Nat} {v : Value} (h : zle M L) (hv : zld M i = some v) : zld L i = some v := by
  rcases zle_at i h with e | ⟨e, -⟩
  · rw [← e]; exact hv
  · rw [e] at hv; cases hv
theorem zle_ok {M L : zL} {k : Nat} (h : zle M L) (hk : zok M k = true) : zok L k = true := by
  unfold zok at hk ⊢
  rw [← zle_len h]
  simp only [Bool.and_eq_true, decide_eq_true_eq, Bool.not_eq_true'] at hk ⊢
  refine ⟨hk.1, ?_⟩
  rcases zle_at (k - 1) h with e | ⟨-, e⟩
  · rw [← e]; exact hk.2
  · exact e
theorem zle_set : ∀ {M L : zL} (k : Nat) (o : Option Value), zle M L → zle (M.set k o) (L.set k o)
  | [], [], _, _, _ => trivial
  | a :: as, b :: bs, 0, o, h => ⟨Or.inl rfl, h.2⟩
  | a :: as, b :: bs, k + 1, o, h => ⟨h.1, zle_set k o h.2⟩
  | [], _ :: _, _, _, h => h.elim
  | _ :: _, [], _, _, h => h.elim
theorem zle_map {p : Nat} : ∀ {M L : zL}, zle M L → zle (M.map (zfg p)) (L.map (zfg p))
  | [], [], _ => trivial
  | a :: as, b :: bs, h => by
    refine ⟨?_, zle_map h.2⟩
    rcases h.1 with rfl | ⟨rfl, h2⟩
    · exact Or.inl rfl
    · refine Or.inr ⟨rfl, ?_⟩
      cases b with
      | none => rfl
      | some v =>
        cases v with
        | ref k =>
          unfold zfg
          by_cases hk : k = p
          · simp [hk, zlong?]
          · simp [hk, zlong?]
        | _ => exact h2
  | [], _ :: _, h => h.elim
  | _ :: _, [], h => h.elim
set_option maxHeartbeats 4000000 in
theorem zst_fg {sc : zX} {i : Instr} {M L N : zL} {st st1 : List Value} {σ σ1 : zS} (h : zle M L) (hs : zst sc i M st σ = some (N, st1, σ1)) : ∃ N', zst sc i L st σ = some (N', st1, σ1) ∧ zle N N' := by
  cases i with
  | iload k =>
    change zo_iload k M st σ = _ at hs
    unfold zo_iload at hs
    split at hs
    · rename_i x hv
      cases hs
      exact ⟨L, by show zo_iload k L st σ = _; unfold zo_iload; rw [zle_ld h hv], h⟩
    · cases hs
  | aload k =>
    change zo_aload k M st σ = _ at hs
    unfold zo_aload at hs
    split at hs
    · rename_i x hv
      cases hs
      exact ⟨L, by show zo_aload k L st σ = _; unfold zo_aload; rw [zle_ld h hv], h⟩
    · cases hs
  | lload k =>
    change zo_lload k M st σ = _ at hs
    unfold zo_lload at hs
    split at hs
    · rename_i x hv
      cases hs
      exact ⟨L, by show zo_lload k L st σ = _; unfold zo_lload; rw [zle_ld h hv], h⟩
    · cases hs
  | istore k =>
    change zo_istore k M st σ = _ at hs
    unfold zo_istore at hs
    split at hs
    · split at hs
      · rename_i x r hk
        cases hs
        exact ⟨_, if_pos (zle_ok h hk), zle_set k _ h⟩
      · cases hs
    · cases hs
  | astore k =>
    change zo_astore k M st σ = _ at hs
    unfold zo_astore at hs
    split at hs
    · split at hs
      · rename_i x r hk
        cases hs
        exact ⟨_, if_pos (zle_ok h hk), zle_set k _ h⟩
      · cases hs
    · cases hs
  | lstore k =>
    change zo_lstore k M st σ = _ at hs
    unfold zo_lstore at hs
    split at hs
    · split at hs
      · rename_i x r hk
        cases hs
        exact ⟨_, if_pos ⟨zle_ok h hk.1, by rw [← zle_len h]; exact hk.2⟩, zle_set _ _ (zle_set _ _ h)⟩
      · cases hs
    · cases hs
  | iinc k n =>
    change zo_iinc k n M st σ = _ at hs
    unfold zo_iinc at hs
    split at hs
    · split at hs
      · rename_i x hv hk
        cases hs
        exact ⟨_, by show zo_iinc k n L st σ = _; unfold zo_iinc; rw [zle_ld h hv]; exact if_pos (zle_ok h hk), zle_set k _ h⟩
      · cases hs
    · cases hs
  | sipush v => cases hs; exact ⟨L, rfl, h⟩
  | lconst v => cases hs; exact ⟨L, rfl, h⟩
  | ldc2_w v => cases hs; exact ⟨L, rfl, h⟩
  | iadd => obtain ⟨x, y, r, rfl, rfl, rfl, rfl⟩ := zo_ii_e hs; exact ⟨L, rfl, h⟩
  | isub => obtain ⟨x, y, r, rfl, rfl, rfl, rfl⟩ := zo_ii_e hs; exact ⟨L, rfl, h⟩
  | imul => obtain ⟨x, y, r, rfl, rfl, rfl, rfl⟩ := zo_ii_e hs; exact ⟨L, rfl, h⟩
  | iand => obtain ⟨x, y, r, rfl, rfl, rfl, rfl⟩ := zo_ii_e hs; exact ⟨L, rfl, h⟩
  | ior => obtain ⟨x, y, r, rfl, rfl, rfl, rfl⟩ := zo_ii_e hs; exact ⟨L, rfl, h⟩
  | ixor => obtain ⟨x, y, r, rfl, rfl, rfl, rfl⟩ := zo_ii_e hs; exact ⟨L, rfl, h⟩
  | ishl => obtain ⟨x, y, r, rfl, rfl, rfl, rfl⟩ := zo_ii_e hs; exact ⟨L, rfl, h⟩
  | ishr => obtain ⟨x, y, r, rfl, rfl, rfl, rfl⟩ := zo_ii_e hs; exact ⟨L, rfl, h⟩
  | iushr => obtain ⟨x, y, r, rfl, rfl, rfl, rfl⟩ := zo_ii_e hs; exact ⟨L, rfl, h⟩
  | ineg => obtain ⟨x, r, rfl, rfl, rfl, rfl⟩ := zo_i_e hs; exact ⟨L, rfl, h⟩
  | i2b => obtain ⟨x, r, rfl, rfl, rfl, rfl⟩ := zo_i_e hs; exact ⟨L, rfl, h⟩
  | i2s => obtain ⟨x, r, rfl, rfl, rfl, rfl⟩ := zo_i_e hs; exact ⟨L, rfl, h⟩
  | ladd => obtain ⟨x, y, r, rfl, rfl, rfl, rfl⟩ := zo_ll_e hs; exact ⟨L, rfl, h⟩
  | lsub => obtain ⟨x, y, r, rfl, rfl, rfl, rfl⟩ := zo_ll_e hs; exact ⟨L, rfl, h⟩
  | lmul => obtain ⟨x, y, r, rfl, rfl, rfl, rfl⟩ := zo_ll_e hs; exact ⟨L, rfl, h⟩
  | land => obtain ⟨x, y, r, rfl, rfl, rfl, rfl⟩ := zo_ll_e hs; exact ⟨L, rfl, h⟩
  | lor => obtain ⟨x, y, r, rfl, rfl, rfl, rfl⟩ := zo_ll_e hs; exact ⟨L, rfl, h⟩
  | lshl => obtain ⟨x, y, r, rfl, rfl, rfl, rfl⟩ := zo_li_e hs; exact ⟨L, rfl, h⟩
  | lshr => obtain ⟨x, y, r, rfl, rfl, rfl, rfl⟩ := zo_li_e hs; exact ⟨L, rfl, h⟩
  | i2l =>
    change zo_i2l M st σ = _ at hs
    unfold zo_i2l at hs
    split at hs
    · cases hs; exact ⟨L, rfl, h⟩
    · cases hs
  | lcmp =>
    change zo_lcmp M st σ = _ at hs
    unfold zo_lcmp at hs
    split at hs
    · cases hs; exact ⟨L, rfl, h⟩
    · cases hs
  | idiv =>
    change zo_idiv M st σ = _ at hs
    unfold zo_idiv at hs
    split at hs
    · split at hs
      · cases hs
      · rename_i h0
        cases hs
        exact ⟨L, if_neg h0, h⟩
    · cases hs
  | irem =>
    change zo_irem M st σ = _ at hs
    unfold zo_irem at hs
    split at hs
    · split at hs
      · cases hs
      · rename_i h0
        cases hs
        exact ⟨L, if_neg h0, h⟩
    · cases hs
  | dup =>
    change zo_dup M st σ = _ at hs
    unfold zo_dup at hs
    split at hs
    · split at hs
      · rename_i hv
        cases hs
        exact ⟨L, if_pos hv, h⟩
      · cases hs
    · cases hs
  | dup_x1 =>
    change zo_dupx1 M st σ = _ at hs
    unfold zo_dupx1 at hs
    split at hs
    · split at hs
      · rename_i hv
        cases hs
        exact ⟨L, if_pos hv, h⟩
      · cases hs
    · cases hs
  | dup2 =>
    change zo_dup2 M st σ = _ at hs
    unfold zo_dup2 at hs
    split at hs
    · split at hs
      · rename_i hv
        cases hs
        exact ⟨L, if_pos hv, h⟩
      · cases hs
    · cases hs
  | pop =>
    change zo_pop M st σ = _ at hs
    unfold zo_pop at hs
    split at hs
    · split at hs
      · rename_i hv
        cases hs
        exact ⟨L, if_pos hv, h⟩
      · cases hs
    · cases hs
  | getfield q =>
    change zo_get q M st σ = _ at hs
    unfold zo_get at hs
    split at hs
    · split at hs
      · rename_i a r ha
        cases hk : zfk q with
        | some k =>
          rw [hk] at hs
          cases hs
          exact ⟨L, by simp only [zst, zo_get, if_pos ha, hk], h⟩
        | none =>
          rw [hk] at hs
          cases hs
          exact ⟨L, by simp only [zst, zo_get, if_pos ha, hk], h⟩
      · cases hs
    · cases hs
  | putfield q =>
    change zo_put q M st σ = _ at hs
    unfold zo_put at hs
    split at hs
    · split at hs
      · rename_i v a r ha
        cases hk : zfk q with
        | some k => rw [hk] at hs; cases hs
        | none =>
          rw [hk] at hs
          cases hs
          exact ⟨L, by simp only [zst, zo_put, if_pos ha, hk], h⟩
      · cases hs
    · cases hs
  | iaload =>
    change zo_iald sc M st σ = _ at hs
    unfold zo_iald at hs
    split at hs
    · split at hs
      · rename_i i a r ha
        obtain ⟨hin, h2⟩ := zin_e hs
        cases h2
        exact ⟨L, by simp only [zst, zo_iald, zin, if_pos ha]; exact if_neg hin, h⟩
      · rename_i i a r ha
        split at hs
        · rename_i k n b hz
          split at hs
          · rename_i hk
            obtain ⟨hin, h2⟩ := zin_e hs
            cases h2
            exact ⟨L, by simp only [zst, zo_iald, zin, if_neg ha, hz, if_pos hk]; exact if_neg hin, h⟩
          · cases hs
        · cases hs
    · cases hs
  | baload =>
    change zo_bald sc M st σ = _ at hs
    unfold zo_bald at hs
    split at hs
    · rename_i i a r
      split at hs
      · rename_i k n b hz
        split at hs
        · rename_i hk
          obtain ⟨hin, h2⟩ := zin_e hs
          cases h2
          exact ⟨L, by simp only [zst, zo_bald, zin, hz, if_pos hk]; exact if_neg hin, h⟩
        · cases hs
      · cases hs
    · cases hs
  | laload =>
    change zo_lald sc M st σ = _ at hs
    unfold zo_lald at hs
    split at hs
    · rename_i i a r
      split at hs
      · rename_i k n b hz
        split at hs
        · rename_i hk
          obtain ⟨hin, h2⟩ := zin_e hs
          cases h2
          exact ⟨L, by simp only [zst, zo_lald, zin, hz, if_pos hk]; exact if_neg hin, h⟩
        · cases hs
      · cases hs
    · cases hs
  | aaload =>
    change zo_aald sc M st σ = _ at hs
    unfold zo_aald at hs
    split at hs
    · rename_i i a r
      split at hs
      · rename_i k n b hz
        split at hs
        · rename_i hk
          obtain ⟨hin, h2⟩ := zin_e hs
          cases h2
          exact ⟨L, by simp only [zst, zo_aald, zin, hz, if_pos hk]; exact if_neg hin, h⟩
        · cases hs
      · cases hs
    · cases hs
  | iastore =>
    change zo_iast sc M st σ = _ at hs
    unfold zo_iast at hs
    split at hs
    · rename_i x i a r
      split at hs
      · rename_i k n b hz
        split at hs
        · rename_i hk
          obtain ⟨hin, h2⟩ := zin_e hs
          cases h2
          exact ⟨L, by simp only [zst, zo_iast, zin, hz, if_pos hk]; exact if_neg hin, h⟩
        · cases hs
      · cases hs
    · cases hs
  | bastore =>
    change zo_bast sc M st σ = _ at hs
    unfold zo_bast at hs
    split at hs
    · rename_i x i a r
      split at hs
      · rename_i k n b hz
        split at hs
        · rename_i hk
          obtain ⟨hin, h2⟩ := zin_e hs
          cases h2
          exact ⟨L, by simp only [zst, zo_bast, zin, hz, if_pos hk]; exact if_neg hin, h⟩
        · cases hs
      · cases hs
    · cases hs
  | lastore =>
    change zo_last sc M st σ = _ at hs
    unfold zo_last at hs
    split at hs
    · rename_i x i a r
      split at hs
      · rename_i k n b hz
        split at hs
        · rename_i hk
          obtain ⟨hin, h2⟩ := zin_e hs
          cases h2
          exact ⟨L, by simp only [zst, zo_last, zin, hz, if_pos hk]; exact if_neg hin, h⟩
        · cases hs
      · cases hs
    · cases hs
  | arraylength =>
    change zo_alen sc M st σ = _ at hs
    unfold zo_alen at hs
    split at hs
    · split at hs
      · rename_i a r ha
        cases hs
        exact ⟨L, by simp only [zst, zo_alen, if_pos ha], h⟩
      · rename_i a r ha
        split at hs
        · rename_i k n b hz
          cases hs
          exact ⟨L, by simp only [zst, zo_alen, if_neg ha, hz], h⟩
        · cases hs
    · cases hs
  | invokestatic k =>
    by_cases h9 : k = 999
    · subst h9
      change zo_copy sc M st σ = _ at hs
      unfold zo_copy at hs
      split at hs
      · rename_i n dp d sp s0 r
        split at hs
        · rename_i k0 n0 b0 k1 n1 b1 hz0 hz1
          split at hs
          · rename_i hk
            cases hs
            exact ⟨L, by simp only [zst, if_true, zo_copy, hz0, hz1, if_pos hk], h⟩
          · cases hs
        · cases hs
      · cases hs
    · by_cases h8 : k = 998
      · subst h8
        obtain ⟨x1, y1, r, rfl, hr, rfl, rfl, rfl⟩ := zo_mm_e hs
        exact ⟨L, if_pos hr, h⟩
      · by_cases h7 : k = 997
        · subst h7
          obtain ⟨x1, y1, r, rfl, hr, rfl, rfl, rfl⟩ := zo_mm_e hs
          exact ⟨L, if_pos hr, h⟩
        · exfalso
          simp only [zst, if_neg h9, if_neg h8, if_neg h7] at hs
          cases hs
  | _ => exact absurd hs (by simp [zst])
theorem zst_fgn {sc : zX} {mt : Nat} {i : Instr} {M L : zL} {st : List Value} {σ σ' : zS} (h : zle M L) (hn : znew sc mt i st σ = some σ') : zst sc i L st σ = none := by
  cases i with
  | newarray ty => rfl
  | _ => exact absurd hn (by simp [znew])
theorem zrun_fg : ∀ (f : Nat) (sc : zX) (mt : Nat) (is : List Instr) (nb : Nat) (M L : zL) (st : List Value) (σ : zS) (x : Option Value × zS), zle M L → zrun sc f mt is nb M st σ = some x → zrun sc f mt is nb L st σ = some x := by
  intro f
  induction f with
  | zero => intro sc mt is nb M L st σ x hle h; simp [zrun] at h
  | succ f ih =>
    intro sc mt is nb M L st σ x hle h
    cases is with
    | nil => rw [zrun] at h ⊢; exact ih _ _ _ _ _ _ _ _ _ hle h
    | cons i is =>
      rw [zrun] at h ⊢
      cases hc : zcal i st with
      | some q =>
        obtain ⟨k, as, rest⟩ := q
        simp only [hc] at h ⊢
        split at h
        · rename_i hl
          rw [if_pos hl]
          cases hr : zrun sc f k (zblk k 0) 1 (zini k as) [] σ with
          | none => simp [hr] at h
          | some y =>
            obtain ⟨r, σ'⟩ := y
            simp only [hr] at h ⊢
            exact ih _ _ _ _ _ _ _ _ _ hle h
        · cases h
      | none =>
        simp only [hc] at h ⊢
        cases hj : zjmp mt i st σ with
        | some q =>
          simp only [hj] at h ⊢
          match q, h with
          | .inl (st', some t), h => exact ih _ _ _ _ _ _ _ _ _ hle h
          | .inl (st', none), h => exact ih _ _ _ _ _ _ _ _ _ hle h
          | .inr x', h => exact h
        | none =>
          simp only [hj] at h ⊢
          cases hs : zst sc i M st σ with
          | none =>
            simp only [hs] at h
            cases hn : znew sc mt i st σ with
            | none => simp [hn] at h
            | some σ' =>
              simp only [hn] at h
              rw [zst_fgn hle hn]
              simp only [hn]
              exact ih _ _ _ _ _ _ _ _ _ (zle_map hle) h
          | some q =>
            obtain ⟨L', st', σ'⟩ := q
            simp only [hs] at h
            obtain ⟨N', e1, e2⟩ := zst_fg hle hs
            simp only [e1]
            exact ih _ _ _ _ _ _ _ _ _ e2 h
/-- forgetting -/
theorem PW_fg {sc : zX} {mt nb : Nat} {is : List Instr} {M L : zL} {st : List Value} {σ : zS} {Q : Option Value → zS → Prop} (hle : zle M L) (h : PW sc mt is nb M st σ Q) : PW sc mt is nb L st σ Q := by
  obtain ⟨f, r, σ', a, b⟩ := h
  exact ⟨f, r, σ', zrun_fg f sc mt is nb M L st σ (r, σ') hle a, b⟩
theorem zle_nil : zle [] [] := trivial
theorem zle_same {a : Option Value} {M L : zL} (h : zle M L) : zle (a :: M) (a :: L) := ⟨Or.inl rfl, h⟩
theorem zle_int {x : Int32} {M L : zL} (h : zle M L) : zle (none :: M) (some (.int x) :: L) := ⟨Or.inr ⟨rfl, rfl⟩, h⟩
theorem zle_ref {x : Nat} {M L : zL} (h : zle M L) : zle (none :: M) (some (.ref x) :: L) := ⟨Or.inr ⟨rfl, rfl⟩, h⟩
