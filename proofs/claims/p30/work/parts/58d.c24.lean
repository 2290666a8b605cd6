def fdv (a b : Int64) : Int64 := if (a ^^^ b) < 0 ∧ ¬ (a / b) * b = a then a / b - 1 else a / b
theorem fd_row0 : (NativeRow.find? natives yJ9_floorDiv_f86c9.cls yJ9_floorDiv_f86c9.name yJ9_floorDiv_f86c9.desc).isNone = true := by decide +kernel
theorem fd_row (p : Program) : NativeRow.find? p.tables.natives yJ9_floorDiv_f86c9.cls yJ9_floorDiv_f86c9.name yJ9_floorDiv_f86c9.desc = none := by
  cases p <;> exact Option.isNone_iff_eq_none.mp fd_row0
def fd_spec (a b : Int64) : Spec where
  pre := .and (.code yJ9_floorDiv_f86c9 cJ9_floorDiv_f86c9 6 (some .long)) (.and (.count 2) (.and (.isLong (.arg 0)) (.and (.isLong (.arg 1)) (.and (.eq (.arg 0) (.long a)) (.eq (.arg 1) (.long b))))))
  post := .and .returned (.eq .result (.long (fdv a b)))
  changes := some []
set_option maxHeartbeats 4000000 in
theorem fd_meets (l : Launch) (a b : Int64) (hne : ¬ b = 0) : MeetsLoose l yJ9_floorDiv_f86c9 (fd_spec a b) := by
  refine MeetsLoose.of_body_ov (code := cJ9_floorDiv_f86c9) (maxLocals := 6) (ret := some .long) fd_row ?_ ?_
  · intro args s h
    simp only [fd_spec, Cond.before_and, Bool.and_eq_true] at h
    exact h.1
  · intro p e s m args below meth c s₁ B
    have hpre := B.pre
    simp only [fd_spec, Cond.before_and, Bool.and_eq_true] at hpre
    obtain ⟨a', b', rfl⟩ := Lib.MathLoose.two_longs hpre.2.1 hpre.2.2.1 hpre.2.2.2.1
    obtain rfl : a' = a := by simpa [Cond.before, Cond.holds, Cond.value, Term.eval] using hpre.2.2.2.2.1
    obtain rfl : b' = b := by simpa [Cond.before, Cond.holds, Cond.value, Term.eval] using hpre.2.2.2.2.2
    have hloc : argsToLocals #[.long a', .long b'] 6 = #[.val (.long a'), .second, .val (.long b'), .second, .unset, .unset] := rfl
    have fin : ∀ r : Int64, (∀ fs, Steps p.tables e below (s₁.setTop (entryFrame m #[.long a', .long b'] 6)) (s₁.setFrames fs) ∨ handOver s₁ (some (.long r)) below ≠ some fs) →
        ((fd_spec a' b').post.after #[.long a', .long b'] s (.returned (some (.long r))) = fun _ => true) →
        ∃ s₂ o, Steps p.tables e below (s₁.setTop (entryFrame m #[.long a', .long b'] 6)) s₂ ∧ s₂.status = .running ∧ Ended s₂ below o ∧
          (fd_spec a' b').ensures #[.long a', .long b'] s o s₂ := by
      intro r hwalk hpost
      obtain ⟨fs, hfs⟩ := handOver_isSome (s := s₁) (some (.long r)) B.hears₁
      refine ⟨s₁.setFrames fs, .returned (some (.long r)), (hwalk fs).resolve_right (fun h => h hfs), B.here.running, B.ended hfs (by intro h; cases h), ?_, State.sameBut_nil.mpr ?_⟩
      · rw [hpost]
      · rw [State.frames_setFrames _ B.cur₁, B.back]
    by_cases h1 : (a' ^^^ b') < 0
    · have h1g : ¬ 0 < (a' ^^^ b') := fun g => Int64.lt_irrefl (Int64.lt_trans h1 g)
      have h1e : ¬ (a' ^^^ b') = 0 := fun g => by rw [g] at h1; exact absurd h1 (by decide)
      by_cases h2 : (a' / b') * b' = a'
      · have ev : fdv a' b' = a' / b' := if_neg (fun g => g.2 h2)
        refine fin (a' / b') (fun fs => ?_) (by funext s'; simp [fd_spec, Cond.after, Cond.holds, Cond.value, Term.eval, ev])
        by_cases hfs : handOver s₁ (some (.long (a' / b'))) below = some fs
        · left
          unfold entryFrame; rw [hloc]
          jvm_step1 Steps.instrAtOv B.here [B.exec, B.bytes, dJ9_floorDiv_f86c9_0, hne]
          jvm_step1 Steps.instrAtOv B.here [B.exec, B.bytes, dJ9_floorDiv_f86c9_1, hne]
          jvm_step1 Steps.instrAtOv B.here [B.exec, B.bytes, dJ9_floorDiv_f86c9_2, hne]
          jvm_step1 Steps.instrAtOv B.here [B.exec, B.bytes, dJ9_floorDiv_f86c9_3, hne]
          jvm_step1 Steps.instrAtOv B.here [B.exec, B.bytes, dJ9_floorDiv_f86c9_5, hne]
          jvm_step1 Steps.instrAtOv B.here [B.exec, B.bytes, dJ9_floorDiv_f86c9_6, hne]
          jvm_step1 Steps.instrAtOv B.here [B.exec, B.bytes, dJ9_floorDiv_f86c9_7, hne]
          jvm_step1 Steps.instrAtOv B.here [B.exec, B.bytes, dJ9_floorDiv_f86c9_8, hne]
          jvm_step1 Steps.instrAtOv B.here [B.exec, B.bytes, dJ9_floorDiv_f86c9_9, hne, h1g, h1e]
          jvm_step1 Steps.instrAtOv B.here [B.exec, B.bytes, dJ9_floorDiv_f86c9_10, hne]
          jvm_step1 Steps.instrAtOv B.here [B.exec, B.bytes, dJ9_floorDiv_f86c9_13, hne]
          jvm_step1 Steps.instrAtOv B.here [B.exec, B.bytes, dJ9_floorDiv_f86c9_15, hne]
          jvm_step1 Steps.instrAtOv B.here [B.exec, B.bytes, dJ9_floorDiv_f86c9_16, hne]
          jvm_step1 Steps.instrAtOv B.here [B.exec, B.bytes, dJ9_floorDiv_f86c9_17, hne]
          jvm_step1 Steps.instrAtOv B.here [B.exec, B.bytes, dJ9_floorDiv_f86c9_18, hne, h2]
          jvm_step1 Steps.instrAtOv B.here [B.exec, B.bytes, dJ9_floorDiv_f86c9_19, hne]
          jvm_step1 Steps.instrAtOv B.here [B.exec, B.bytes, dJ9_floorDiv_f86c9_27, hne]
          jvm_step1 Steps.instrAtOv B.here [B.exec, B.bytes, dJ9_floorDiv_f86c9_29, B.method₁, B.returns]
          intro acts
          rw [ret_to B.frames₁ B.method₁ B.notSynchronized rfl rfl hfs]
          exact Steps.refl _
        · exact Or.inr hfs
      · have ev : fdv a' b' = a' / b' - 1 := if_pos ⟨h1, h2⟩
        by_cases h3 : a' < (a' / b') * b'
        · skip
          refine fin (a' / b' - 1) (fun fs => ?_) (by funext s'; simp [fd_spec, Cond.after, Cond.holds, Cond.value, Term.eval, ev])
          by_cases hfs : handOver s₁ (some (.long (a' / b' - 1))) below = some fs
          · left
            unfold entryFrame; rw [hloc]
            jvm_step1 Steps.instrAtOv B.here [B.exec, B.bytes, dJ9_floorDiv_f86c9_0, hne]
            jvm_step1 Steps.instrAtOv B.here [B.exec, B.bytes, dJ9_floorDiv_f86c9_1, hne]
            jvm_step1 Steps.instrAtOv B.here [B.exec, B.bytes, dJ9_floorDiv_f86c9_2, hne]
            jvm_step1 Steps.instrAtOv B.here [B.exec, B.bytes, dJ9_floorDiv_f86c9_3, hne]
            jvm_step1 Steps.instrAtOv B.here [B.exec, B.bytes, dJ9_floorDiv_f86c9_5, hne]
            jvm_step1 Steps.instrAtOv B.here [B.exec, B.bytes, dJ9_floorDiv_f86c9_6, hne]
            jvm_step1 Steps.instrAtOv B.here [B.exec, B.bytes, dJ9_floorDiv_f86c9_7, hne]
            jvm_step1 Steps.instrAtOv B.here [B.exec, B.bytes, dJ9_floorDiv_f86c9_8, hne]
            jvm_step1 Steps.instrAtOv B.here [B.exec, B.bytes, dJ9_floorDiv_f86c9_9, hne, h1g, h1e]
            jvm_step1 Steps.instrAtOv B.here [B.exec, B.bytes, dJ9_floorDiv_f86c9_10, hne]
            jvm_step1 Steps.instrAtOv B.here [B.exec, B.bytes, dJ9_floorDiv_f86c9_13, hne]
            jvm_step1 Steps.instrAtOv B.here [B.exec, B.bytes, dJ9_floorDiv_f86c9_15, hne]
            jvm_step1 Steps.instrAtOv B.here [B.exec, B.bytes, dJ9_floorDiv_f86c9_16, hne]
            jvm_step1 Steps.instrAtOv B.here [B.exec, B.bytes, dJ9_floorDiv_f86c9_17, hne]
            jvm_step1 Steps.instrAtOv B.here [B.exec, B.bytes, dJ9_floorDiv_f86c9_18, hne, h2, h3]
            jvm_step1 Steps.instrAtOv B.here [B.exec, B.bytes, dJ9_floorDiv_f86c9_19, hne]
            jvm_step1 Steps.instrAtOv B.here [B.exec, B.bytes, dJ9_floorDiv_f86c9_22, hne]
            jvm_step1 Steps.instrAtOv B.here [B.exec, B.bytes, dJ9_floorDiv_f86c9_24, hne]
            jvm_step1 Steps.instrAtOv B.here [B.exec, B.bytes, dJ9_floorDiv_f86c9_25, hne]
            jvm_step1 Steps.instrAtOv B.here [B.exec, B.bytes, dJ9_floorDiv_f86c9_26, B.method₁, B.returns]
            intro acts
            rw [ret_to B.frames₁ B.method₁ B.notSynchronized rfl rfl hfs]
            exact Steps.refl _
          · exact Or.inr hfs
        · skip
          refine fin (a' / b' - 1) (fun fs => ?_) (by funext s'; simp [fd_spec, Cond.after, Cond.holds, Cond.value, Term.eval, ev])
          by_cases hfs : handOver s₁ (some (.long (a' / b' - 1))) below = some fs
          · left
            unfold entryFrame; rw [hloc]
            jvm_step1 Steps.instrAtOv B.here [B.exec, B.bytes, dJ9_floorDiv_f86c9_0, hne]
            jvm_step1 Steps.instrAtOv B.here [B.exec, B.bytes, dJ9_floorDiv_f86c9_1, hne]
            jvm_step1 Steps.instrAtOv B.here [B.exec, B.bytes, dJ9_floorDiv_f86c9_2, hne]
            jvm_step1 Steps.instrAtOv B.here [B.exec, B.bytes, dJ9_floorDiv_f86c9_3, hne]
            jvm_step1 Steps.instrAtOv B.here [B.exec, B.bytes, dJ9_floorDiv_f86c9_5, hne]
            jvm_step1 Steps.instrAtOv B.here [B.exec, B.bytes, dJ9_floorDiv_f86c9_6, hne]
            jvm_step1 Steps.instrAtOv B.here [B.exec, B.bytes, dJ9_floorDiv_f86c9_7, hne]
            jvm_step1 Steps.instrAtOv B.here [B.exec, B.bytes, dJ9_floorDiv_f86c9_8, hne]
            jvm_step1 Steps.instrAtOv B.here [B.exec, B.bytes, dJ9_floorDiv_f86c9_9, hne, h1g, h1e]
            jvm_step1 Steps.instrAtOv B.here [B.exec, B.bytes, dJ9_floorDiv_f86c9_10, hne]
            jvm_step1 Steps.instrAtOv B.here [B.exec, B.bytes, dJ9_floorDiv_f86c9_13, hne]
            jvm_step1 Steps.instrAtOv B.here [B.exec, B.bytes, dJ9_floorDiv_f86c9_15, hne]
            jvm_step1 Steps.instrAtOv B.here [B.exec, B.bytes, dJ9_floorDiv_f86c9_16, hne]
            jvm_step1 Steps.instrAtOv B.here [B.exec, B.bytes, dJ9_floorDiv_f86c9_17, hne]
            jvm_step1 Steps.instrAtOv B.here [B.exec, B.bytes, dJ9_floorDiv_f86c9_18, hne, h2, h3]
            jvm_step1 Steps.instrAtOv B.here [B.exec, B.bytes, dJ9_floorDiv_f86c9_19, hne]
            jvm_step1 Steps.instrAtOv B.here [B.exec, B.bytes, dJ9_floorDiv_f86c9_22, hne]
            jvm_step1 Steps.instrAtOv B.here [B.exec, B.bytes, dJ9_floorDiv_f86c9_24, hne]
            jvm_step1 Steps.instrAtOv B.here [B.exec, B.bytes, dJ9_floorDiv_f86c9_25, hne]
            jvm_step1 Steps.instrAtOv B.here [B.exec, B.bytes, dJ9_floorDiv_f86c9_26, B.method₁, B.returns]
            intro acts
            rw [ret_to B.frames₁ B.method₁ B.notSynchronized rfl rfl hfs]
            exact Steps.refl _
          · exact Or.inr hfs
    · have ev : fdv a' b' = a' / b' := if_neg (fun g => h1 g.1)
      by_cases h2 : 0 < (a' ^^^ b')
      · skip
        refine fin (a' / b') (fun fs => ?_) (by funext s'; simp [fd_spec, Cond.after, Cond.holds, Cond.value, Term.eval, ev])
        by_cases hfs : handOver s₁ (some (.long (a' / b'))) below = some fs
        · left
          unfold entryFrame; rw [hloc]
          jvm_step1 Steps.instrAtOv B.here [B.exec, B.bytes, dJ9_floorDiv_f86c9_0, hne]
          jvm_step1 Steps.instrAtOv B.here [B.exec, B.bytes, dJ9_floorDiv_f86c9_1, hne]
          jvm_step1 Steps.instrAtOv B.here [B.exec, B.bytes, dJ9_floorDiv_f86c9_2, hne]
          jvm_step1 Steps.instrAtOv B.here [B.exec, B.bytes, dJ9_floorDiv_f86c9_3, hne]
          jvm_step1 Steps.instrAtOv B.here [B.exec, B.bytes, dJ9_floorDiv_f86c9_5, hne]
          jvm_step1 Steps.instrAtOv B.here [B.exec, B.bytes, dJ9_floorDiv_f86c9_6, hne]
          jvm_step1 Steps.instrAtOv B.here [B.exec, B.bytes, dJ9_floorDiv_f86c9_7, hne]
          jvm_step1 Steps.instrAtOv B.here [B.exec, B.bytes, dJ9_floorDiv_f86c9_8, hne]
          jvm_step1 Steps.instrAtOv B.here [B.exec, B.bytes, dJ9_floorDiv_f86c9_9, hne, h2]
          jvm_step1 Steps.instrAtOv B.here [B.exec, B.bytes, dJ9_floorDiv_f86c9_10, hne]
          jvm_step1 Steps.instrAtOv B.here [B.exec, B.bytes, dJ9_floorDiv_f86c9_27, hne]
          jvm_step1 Steps.instrAtOv B.here [B.exec, B.bytes, dJ9_floorDiv_f86c9_29, B.method₁, B.returns]
          intro acts
          rw [ret_to B.frames₁ B.method₁ B.notSynchronized rfl rfl hfs]
          exact Steps.refl _
        · exact Or.inr hfs
      · have h4 : (a' ^^^ b') = 0 := Int64.le_antisymm (Int64.not_lt.mp h2) (Int64.not_lt.mp h1)
        refine fin (a' / b') (fun fs => ?_) (by funext s'; simp [fd_spec, Cond.after, Cond.holds, Cond.value, Term.eval, ev])
        by_cases hfs : handOver s₁ (some (.long (a' / b'))) below = some fs
        · left
          unfold entryFrame; rw [hloc]
          jvm_step1 Steps.instrAtOv B.here [B.exec, B.bytes, dJ9_floorDiv_f86c9_0, hne]
          jvm_step1 Steps.instrAtOv B.here [B.exec, B.bytes, dJ9_floorDiv_f86c9_1, hne]
          jvm_step1 Steps.instrAtOv B.here [B.exec, B.bytes, dJ9_floorDiv_f86c9_2, hne]
          jvm_step1 Steps.instrAtOv B.here [B.exec, B.bytes, dJ9_floorDiv_f86c9_3, hne]
          jvm_step1 Steps.instrAtOv B.here [B.exec, B.bytes, dJ9_floorDiv_f86c9_5, hne]
          jvm_step1 Steps.instrAtOv B.here [B.exec, B.bytes, dJ9_floorDiv_f86c9_6, hne]
          jvm_step1 Steps.instrAtOv B.here [B.exec, B.bytes, dJ9_floorDiv_f86c9_7, hne]
          jvm_step1 Steps.instrAtOv B.here [B.exec, B.bytes, dJ9_floorDiv_f86c9_8, hne]
          jvm_step1 Steps.instrAtOv B.here [B.exec, B.bytes, dJ9_floorDiv_f86c9_9, hne, h4]
          jvm_step1 Steps.instrAtOv B.here [B.exec, B.bytes, dJ9_floorDiv_f86c9_10, hne]
          jvm_step1 Steps.instrAtOv B.here [B.exec, B.bytes, dJ9_floorDiv_f86c9_27, hne]
          jvm_step1 Steps.instrAtOv B.here [B.exec, B.bytes, dJ9_floorDiv_f86c9_29, B.method₁, B.returns]
          intro acts
          rw [ret_to B.frames₁ B.method₁ B.notSynchronized rfl rfl hfs]
          exact Steps.refl _
        · exact Or.inr hfs
