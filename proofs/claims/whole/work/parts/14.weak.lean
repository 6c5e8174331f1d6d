/-! MORE LOCALS DO NO HARM -/
set_option maxHeartbeats 2000000 in
theorem ix_goto_rl (pc : Nat) (off : Int) (k l : ix_L) (st : List Value) (h : ix_H) : ix_goto pc off l st h = (ix_goto pc off k st h).map (ix_rl l) := by
  unfold ix_goto
  repeat' split
  all_goals first | rfl | simp_all [ix_rl]
set_option maxHeartbeats 2000000 in
theorem ix_br_rl (b : Bool) (pc : Nat) (off : Int) (k l : ix_L) (st : List Value) (h : ix_H) : ix_br b pc off l st h = (ix_br b pc off k st h).map (ix_rl l) := by
  unfold ix_br
  repeat' split
  all_goals first | rfl | simp_all [ix_rl]
set_option maxHeartbeats 2000000 in
theorem ix_gf_rl (cn idx pc : Nat) (k l : ix_L) (st : List Value) (h : ix_H) : ix_gf cn idx pc l st h = (ix_gf cn idx pc k st h).map (ix_rl l) := by
  unfold ix_gf
  repeat' split
  all_goals first | rfl | simp_all [ix_rl]
set_option maxHeartbeats 2000000 in
theorem ix_pf_rl (cn kd idx pc : Nat) (k l : ix_L) (st : List Value) (h : ix_H) : ix_pf cn kd idx pc l st h = (ix_pf cn kd idx pc k st h).map (ix_rl l) := by
  unfold ix_pf
  repeat' split
  all_goals first | rfl | simp_all [ix_rl]
set_option maxHeartbeats 2000000 in
theorem ix_al_rl (S : ix_S) (pc : Nat) (k l : ix_L) (st : List Value) (h : ix_H) : ix_al S pc l st h = (ix_al S pc k st h).map (ix_rl l) := by
  unfold ix_al
  repeat' split
  all_goals first | rfl | simp_all [ix_rl]
set_option maxHeartbeats 2000000 in
theorem ix_ia_rl (S : ix_S) (pc : Nat) (k l : ix_L) (st : List Value) (h : ix_H) : ix_ia S pc l st h = (ix_ia S pc k st h).map (ix_rl l) := by
  unfold ix_ia
  repeat' split
  all_goals first | rfl | simp_all [ix_rl]
set_option maxHeartbeats 2000000 in
theorem ix_ba_rl (pc : Nat) (k l : ix_L) (st : List Value) (h : ix_H) : ix_ba pc l st h = (ix_ba pc k st h).map (ix_rl l) := by
  unfold ix_ba
  repeat' split
  all_goals first | rfl | simp_all [ix_rl]
set_option maxHeartbeats 2000000 in
theorem ix_aa_rl (pc : Nat) (k l : ix_L) (st : List Value) (h : ix_H) : ix_aa pc l st h = (ix_aa pc k st h).map (ix_rl l) := by
  unfold ix_aa
  repeat' split
  all_goals first | rfl | simp_all [ix_rl]
set_option maxHeartbeats 2000000 in
theorem ix_is_rl (pc : Nat) (k l : ix_L) (st : List Value) (h : ix_H) : ix_is pc l st h = (ix_is pc k st h).map (ix_rl l) := by
  unfold ix_is
  repeat' split
  all_goals first | rfl | simp_all [ix_rl]
set_option maxHeartbeats 2000000 in
theorem ix_bs_rl (pc : Nat) (k l : ix_L) (st : List Value) (h : ix_H) : ix_bs pc l st h = (ix_bs pc k st h).map (ix_rl l) := by
  unfold ix_bs
  repeat' split
  all_goals first | rfl | simp_all [ix_rl]
set_option maxHeartbeats 2000000 in
theorem ix_as_rl (pc : Nat) (k l : ix_L) (st : List Value) (h : ix_H) : ix_as pc l st h = (ix_as pc k st h).map (ix_rl l) := by
  unfold ix_as
  repeat' split
  all_goals first | rfl | simp_all [ix_rl]
set_option maxHeartbeats 2000000 in
theorem ix_na_rl (ty : FieldType) (pc : Nat) (k l : ix_L) (st : List Value) (h : ix_H) : ix_na ty pc l st h = (ix_na ty pc k st h).map (ix_rl l) := by
  unfold ix_na
  repeat' split
  all_goals first | rfl | simp_all [ix_rl]
set_option maxHeartbeats 2000000 in
theorem ix_nq_rl (cn idx pc : Nat) (k l : ix_L) (st : List Value) (h : ix_H) : ix_nq cn idx pc l st h = (ix_nq cn idx pc k st h).map (ix_rl l) := by
  unfold ix_nq
  repeat' split
  all_goals first | rfl | simp_all [ix_rl]
set_option maxHeartbeats 2000000 in
theorem ix_no_rl (cn idx pc : Nat) (k l : ix_L) (st : List Value) (h : ix_H) : ix_no cn idx pc l st h = (ix_no cn idx pc k st h).map (ix_rl l) := by
  unfold ix_no
  repeat' split
  all_goals first | rfl | simp_all [ix_rl]
set_option maxHeartbeats 2000000 in
theorem ix_call_rl (cn kd idx pc : Nat) (k l : ix_L) (st : List Value) (h : ix_H) : ix_call cn kd idx pc l st h = (ix_call cn kd idx pc k st h).map (ix_rl l) := by
  unfold ix_call
  simp only
  repeat' split
  all_goals first | rfl | simp_all [ix_rl]
def ix_loc : Instr → Bool
  | .iload _ => true | .iload_n _ => true | .lload _ => true | .lload_n _ => true | .aload _ => true | .aload_n _ => true
  | .istore _ => true | .istore_n _ => true | .lstore _ => true | .lstore_n _ => true | .astore _ => true | .astore_n _ => true
  | .iinc _ _ => true | _ => false
set_option maxHeartbeats 8000000 in
theorem ix_exec_rl (S : ix_S) (q : ix_M) (i : Instr) (pc : Nat) (k l : ix_L) (st : List Value) (h : ix_H) (hi : ix_loc i = false) : ix_exec S q i pc l st h = (ix_exec S q i pc k st h).map (ix_rl l) := by
  cases i
  all_goals first
    | exact absurd (show true = false from hi) (by decide)
    | exact ix_goto_rl _ _ k l st h
    | exact ix_gf_rl _ _ _ k l st h
    | exact ix_pf_rl _ _ _ _ k l st h
    | exact ix_al_rl _ _ k l st h
    | exact ix_ia_rl _ _ k l st h
    | exact ix_ba_rl _ k l st h
    | exact ix_aa_rl _ k l st h
    | exact ix_is_rl _ k l st h
    | exact ix_bs_rl _ k l st h
    | exact ix_as_rl _ k l st h
    | exact ix_na_rl _ _ k l st h
    | exact ix_nq_rl _ _ _ k l st h
    | exact ix_no_rl _ _ _ k l st h
    | exact ix_call_rl _ _ _ _ k l st h
    | (show (match ix_pure _ st with | some st' => _ | none => none) = _; cases ix_pure _ st <;> rfl)
    | (simp only [ix_exec]; split <;> first | rfl | exact ix_br_rl _ _ _ k l _ h)
    | (simp only [ix_exec]; repeat' split) <;> first | rfl | exact ix_goto_rl _ _ k l _ h | simp_all [ix_rl]

theorem ix_exec_le {S : ix_S} {q : ix_M} {i : Instr} {pc : Nat} {k l : ix_L} {st : List Value} {h : ix_H} {r : ix_R} (hle : ix_le k l) (hr : ix_exec S q i pc k st h = some r) : ∃ r', ix_exec S q i pc l st h = some r' ∧ ix_lr r r' := by
  by_cases hi : ix_loc i = false
  · refine ix_lr_rl hle hr (ix_exec_rl S q i pc k l st h hi) ?_
    have h1 := ix_exec_rl S q i pc k k st h hi
    rw [hr] at h1
    exact (Option.some.inj h1).symm
  · skip
    cases i
    all_goals first
      | exact absurd (show false = false from rfl) hi
      | skip
    case iload x =>
      show ∃ r', ix_ldI pc 2 l st h x = some r' ∧ ix_lr r r'
      replace hr : ix_ldI pc 2 k st h x = some r := hr
      unfold ix_ldI at hr ⊢
      split at hr
      · rename_i v hv; cases hr; rw [hle.2 _ _ hv]; exact ⟨_, rfl, rfl, hle, rfl, rfl⟩
      · cases hr
    case iload_n x =>
      show ∃ r', ix_ldI pc 1 l st h x = some r' ∧ ix_lr r r'
      replace hr : ix_ldI pc 1 k st h x = some r := hr
      unfold ix_ldI at hr ⊢
      split at hr
      · rename_i v hv; cases hr; rw [hle.2 _ _ hv]; exact ⟨_, rfl, rfl, hle, rfl, rfl⟩
      · cases hr
    case lload x =>
      show ∃ r', ix_ldL pc 2 l st h x = some r' ∧ ix_lr r r'
      replace hr : ix_ldL pc 2 k st h x = some r := hr
      unfold ix_ldL at hr ⊢
      split at hr
      · rename_i v hv; cases hr; rw [hle.2 _ _ hv]; exact ⟨_, rfl, rfl, hle, rfl, rfl⟩
      · cases hr
    case lload_n x =>
      show ∃ r', ix_ldL pc 1 l st h x = some r' ∧ ix_lr r r'
      replace hr : ix_ldL pc 1 k st h x = some r := hr
      unfold ix_ldL at hr ⊢
      split at hr
      · rename_i v hv; cases hr; rw [hle.2 _ _ hv]; exact ⟨_, rfl, rfl, hle, rfl, rfl⟩
      · cases hr
    case aload x =>
      show ∃ r', ix_ldA pc 2 l st h x = some r' ∧ ix_lr r r'
      replace hr : ix_ldA pc 2 k st h x = some r := hr
      unfold ix_ldA at hr ⊢
      split at hr
      · rename_i v hv; cases hr; rw [hle.2 _ _ hv]; exact ⟨_, rfl, rfl, hle, rfl, rfl⟩
      · rename_i v hv; cases hr; rw [hle.2 _ _ hv]; exact ⟨_, rfl, rfl, hle, rfl, rfl⟩
      · cases hr
    case aload_n x =>
      show ∃ r', ix_ldA pc 1 l st h x = some r' ∧ ix_lr r r'
      replace hr : ix_ldA pc 1 k st h x = some r := hr
      unfold ix_ldA at hr ⊢
      split at hr
      · rename_i v hv; cases hr; rw [hle.2 _ _ hv]; exact ⟨_, rfl, rfl, hle, rfl, rfl⟩
      · rename_i v hv; cases hr; rw [hle.2 _ _ hv]; exact ⟨_, rfl, rfl, hle, rfl, rfl⟩
      · cases hr
    case istore x =>
      show ∃ r', ix_stI _ pc 2 l st h x = some r' ∧ ix_lr r r'
      replace hr : ix_stI _ pc 2 k st h x = some r := hr
      unfold ix_stI at hr ⊢
      split at hr
      · split at hr
        · rename_i hk; cases hr; simp only [hk, if_true]; exact ⟨_, rfl, rfl, ix_le_put1 hle _ _, rfl, rfl⟩
        · cases hr
      · cases hr
    case istore_n x =>
      show ∃ r', ix_stI _ pc 1 l st h x = some r' ∧ ix_lr r r'
      replace hr : ix_stI _ pc 1 k st h x = some r := hr
      unfold ix_stI at hr ⊢
      split at hr
      · split at hr
        · rename_i hk; cases hr; simp only [hk, if_true]; exact ⟨_, rfl, rfl, ix_le_put1 hle _ _, rfl, rfl⟩
        · cases hr
      · cases hr
    case lstore x =>
      show ∃ r', ix_stL _ pc 2 l st h x = some r' ∧ ix_lr r r'
      replace hr : ix_stL _ pc 2 k st h x = some r := hr
      unfold ix_stL at hr ⊢
      split at hr
      · split at hr
        · rename_i hk; cases hr; simp only [hk, if_true]; exact ⟨_, rfl, rfl, ix_le_put2 hle _ _, rfl, rfl⟩
        · cases hr
      · cases hr
    case lstore_n x =>
      show ∃ r', ix_stL _ pc 1 l st h x = some r' ∧ ix_lr r r'
      replace hr : ix_stL _ pc 1 k st h x = some r := hr
      unfold ix_stL at hr ⊢
      split at hr
      · split at hr
        · rename_i hk; cases hr; simp only [hk, if_true]; exact ⟨_, rfl, rfl, ix_le_put2 hle _ _, rfl, rfl⟩
        · cases hr
      · cases hr
    case astore x =>
      show ∃ r', ix_stA _ pc 2 l st h x = some r' ∧ ix_lr r r'
      replace hr : ix_stA _ pc 2 k st h x = some r := hr
      unfold ix_stA at hr ⊢
      split at hr
      · split at hr
        · rename_i hk; cases hr; simp only [hk, if_true]; exact ⟨_, rfl, rfl, ix_le_put1 hle _ _, rfl, rfl⟩
        · cases hr
      · cases hr
    case astore_n x =>
      show ∃ r', ix_stA _ pc 1 l st h x = some r' ∧ ix_lr r r'
      replace hr : ix_stA _ pc 1 k st h x = some r := hr
      unfold ix_stA at hr ⊢
      split at hr
      · split at hr
        · rename_i hk; cases hr; simp only [hk, if_true]; exact ⟨_, rfl, rfl, ix_le_put1 hle _ _, rfl, rfl⟩
        · cases hr
      · cases hr
    case iinc x c =>
      simp only [ix_exec] at hr ⊢
      split at hr
      · rename_i v hv
        split at hr
        · rename_i hk
          cases hr
          rw [hle.2 _ _ hv]
          simp only [hk, if_true]
          exact ⟨_, rfl, rfl, ix_le_put1 hle _ _, rfl, rfl⟩
        · cases hr
      · cases hr
theorem ix_step_le {S : ix_S} {q : ix_M} {pc : Nat} {k l : ix_L} {st : List Value} {h : ix_H} {r : ix_R} (hle : ix_le k l) (hr : ix_step S q (pc, k, st, h) = some r) : ∃ r', ix_step S q (pc, l, st, h) = some r' ∧ ix_lr r r' := by
  unfold ix_step at hr ⊢
  simp only at hr ⊢
  split at hr
  · exact ix_exec_le hle hr
  · cases hr
theorem ix_run_le {S : ix_S} {C : Nat → List Value → ix_H → ix_O → Prop} {q : ix_M} {o : ix_O} : ∀ (n pc : Nat) (k l : ix_L) (st : List Value) (h : ix_H), ix_le k l → ix_run S C q n (pc, k, st, h) o → ix_run S C q n (pc, l, st, h) o := by
  intro n
  induction n with
  | zero => intro pc k l st h _ z; exact z.elim
  | succ n ih =>
    intro pc k l st h hle z
    unfold ix_run at z ⊢
    split at z
    · exact z.elim
    · rename_i g hs
      obtain ⟨r', hr', hlr⟩ := ix_step_le hle hs
      rw [hr']
      obtain ⟨pc1, k1, st1, h1⟩ := g
      rcases r' with ⟨pc2, l2, st2, h2⟩ | r' | r'
      · obtain ⟨rfl, hl, rfl, rfl⟩ := hlr
        exact ih _ _ _ _ _ hl z
      · exact hlr.elim
      · exact hlr.elim
    · rename_i u hs
      obtain ⟨r', hr', hlr⟩ := ix_step_le hle hs
      rw [hr']
      rcases r' with r' | o' | r'
      · exact hlr.elim
      · exact (hlr : u = o').symm.trans z
      · exact hlr.elim
    · rename_i y as pc1 k1 st1 h1 hs
      obtain ⟨r', hr', hlr⟩ := ix_step_le hle hs
      rw [hr']
      rcases r' with r' | o' | ⟨y2, as2, pc2, l2, st2, h2⟩
      · exact hlr.elim
      · exact hlr.elim
      · obtain ⟨rfl, rfl, rfl, hl, rfl, rfl⟩ := hlr
        obtain ⟨v, h', hc, hn⟩ := z
        exact ⟨v, h', hc, ih _ _ _ _ _ hl hn⟩
