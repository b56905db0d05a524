theorem hv_X0_init : yX0_init.cls = RX0 ∧ yX0_init.cls ≠ "java/lang/invoke/MethodHandle" ∧ yX0_init.cls ≠ "java/lang/invoke/VarHandle" ∧ (parseMethodDescriptor yX0_init.desc).map (fun d => d.parameters.length) = some 0 := by decide +kernel
theorem hs_X0_init : yX0_init.cls ≠ "java/lang/invoke/MethodHandle" ∧ yX0_init.cls ≠ "java/lang/invoke/VarHandle" ∧ (parseMethodDescriptor yX0_init.desc).map (fun d => d.parameters.length) = some 0 := hv_X0_init.2
theorem hp_X0_init : plainName yX0_init.cls = true := by decide +kernel
theorem hv_X0_merge : yX0_merge.cls = RX0 ∧ yX0_merge.cls ≠ "java/lang/invoke/MethodHandle" ∧ yX0_merge.cls ≠ "java/lang/invoke/VarHandle" ∧ (parseMethodDescriptor yX0_merge.desc).map (fun d => d.parameters.length) = some 3 := by decide +kernel
theorem hs_X0_merge : yX0_merge.cls ≠ "java/lang/invoke/MethodHandle" ∧ yX0_merge.cls ≠ "java/lang/invoke/VarHandle" ∧ (parseMethodDescriptor yX0_merge.desc).map (fun d => d.parameters.length) = some 3 := hv_X0_merge.2
theorem hp_X0_merge : plainName yX0_merge.cls = true := by decide +kernel
theorem hv_X0_findEarliest : yX0_findEarliest.cls = RX0 ∧ yX0_findEarliest.cls ≠ "java/lang/invoke/MethodHandle" ∧ yX0_findEarliest.cls ≠ "java/lang/invoke/VarHandle" ∧ (parseMethodDescriptor yX0_findEarliest.desc).map (fun d => d.parameters.length) = some 2 := by decide +kernel
theorem hs_X0_findEarliest : yX0_findEarliest.cls ≠ "java/lang/invoke/MethodHandle" ∧ yX0_findEarliest.cls ≠ "java/lang/invoke/VarHandle" ∧ (parseMethodDescriptor yX0_findEarliest.desc).map (fun d => d.parameters.length) = some 2 := hv_X0_findEarliest.2
theorem hp_X0_findEarliest : plainName yX0_findEarliest.cls = true := by decide +kernel
theorem hv_X0_rankOf : yX0_rankOf.cls = RX0 ∧ yX0_rankOf.cls ≠ "java/lang/invoke/MethodHandle" ∧ yX0_rankOf.cls ≠ "java/lang/invoke/VarHandle" ∧ (parseMethodDescriptor yX0_rankOf.desc).map (fun d => d.parameters.length) = some 2 := by decide +kernel
theorem hs_X0_rankOf : yX0_rankOf.cls ≠ "java/lang/invoke/MethodHandle" ∧ yX0_rankOf.cls ≠ "java/lang/invoke/VarHandle" ∧ (parseMethodDescriptor yX0_rankOf.desc).map (fun d => d.parameters.length) = some 2 := hv_X0_rankOf.2
theorem hp_X0_rankOf : plainName yX0_rankOf.cls = true := by decide +kernel
theorem hv_X0_isBeginning : yX0_isBeginning.cls = RX0 ∧ yX0_isBeginning.cls ≠ "java/lang/invoke/MethodHandle" ∧ yX0_isBeginning.cls ≠ "java/lang/invoke/VarHandle" ∧ (parseMethodDescriptor yX0_isBeginning.desc).map (fun d => d.parameters.length) = some 1 := by decide +kernel
theorem hs_X0_isBeginning : yX0_isBeginning.cls ≠ "java/lang/invoke/MethodHandle" ∧ yX0_isBeginning.cls ≠ "java/lang/invoke/VarHandle" ∧ (parseMethodDescriptor yX0_isBeginning.desc).map (fun d => d.parameters.length) = some 1 := hv_X0_isBeginning.2
theorem hp_X0_isBeginning : plainName yX0_isBeginning.cls = true := by decide +kernel
theorem hv_X0_tickOf : yX0_tickOf.cls = RX0 ∧ yX0_tickOf.cls ≠ "java/lang/invoke/MethodHandle" ∧ yX0_tickOf.cls ≠ "java/lang/invoke/VarHandle" ∧ (parseMethodDescriptor yX0_tickOf.desc).map (fun d => d.parameters.length) = some 2 := by decide +kernel
theorem hs_X0_tickOf : yX0_tickOf.cls ≠ "java/lang/invoke/MethodHandle" ∧ yX0_tickOf.cls ≠ "java/lang/invoke/VarHandle" ∧ (parseMethodDescriptor yX0_tickOf.desc).map (fun d => d.parameters.length) = some 2 := hv_X0_tickOf.2
theorem hp_X0_tickOf : plainName yX0_tickOf.cls = true := by decide +kernel
theorem hv_X0_put : yX0_put.cls = RX0 ∧ yX0_put.cls ≠ "java/lang/invoke/MethodHandle" ∧ yX0_put.cls ≠ "java/lang/invoke/VarHandle" ∧ (parseMethodDescriptor yX0_put.desc).map (fun d => d.parameters.length) = some 3 := by decide +kernel
theorem hs_X0_put : yX0_put.cls ≠ "java/lang/invoke/MethodHandle" ∧ yX0_put.cls ≠ "java/lang/invoke/VarHandle" ∧ (parseMethodDescriptor yX0_put.desc).map (fun d => d.parameters.length) = some 3 := hv_X0_put.2
theorem hp_X0_put : plainName yX0_put.cls = true := by decide +kernel
theorem hv_X1_init : yX1_init.cls = RX1 ∧ yX1_init.cls ≠ "java/lang/invoke/MethodHandle" ∧ yX1_init.cls ≠ "java/lang/invoke/VarHandle" ∧ (parseMethodDescriptor yX1_init.desc).map (fun d => d.parameters.length) = some 0 := by decide +kernel
theorem hs_X1_init : yX1_init.cls ≠ "java/lang/invoke/MethodHandle" ∧ yX1_init.cls ≠ "java/lang/invoke/VarHandle" ∧ (parseMethodDescriptor yX1_init.desc).map (fun d => d.parameters.length) = some 0 := hv_X1_init.2
theorem hp_X1_init : plainName yX1_init.cls = true := by decide +kernel
theorem hv_X1_tell : yX1_tell.cls = RX1 ∧ yX1_tell.cls ≠ "java/lang/invoke/MethodHandle" ∧ yX1_tell.cls ≠ "java/lang/invoke/VarHandle" ∧ (parseMethodDescriptor yX1_tell.desc).map (fun d => d.parameters.length) = some 1 := by decide +kernel
theorem hs_X1_tell : yX1_tell.cls ≠ "java/lang/invoke/MethodHandle" ∧ yX1_tell.cls ≠ "java/lang/invoke/VarHandle" ∧ (parseMethodDescriptor yX1_tell.desc).map (fun d => d.parameters.length) = some 1 := hv_X1_tell.2
theorem hp_X1_tell : plainName yX1_tell.cls = true := by decide +kernel
theorem hv_X1_isNote : yX1_isNote.cls = RX1 ∧ yX1_isNote.cls ≠ "java/lang/invoke/MethodHandle" ∧ yX1_isNote.cls ≠ "java/lang/invoke/VarHandle" ∧ (parseMethodDescriptor yX1_isNote.desc).map (fun d => d.parameters.length) = some 1 := by decide +kernel
theorem hs_X1_isNote : yX1_isNote.cls ≠ "java/lang/invoke/MethodHandle" ∧ yX1_isNote.cls ≠ "java/lang/invoke/VarHandle" ∧ (parseMethodDescriptor yX1_isNote.desc).map (fun d => d.parameters.length) = some 1 := hv_X1_isNote.2
theorem hp_X1_isNote : plainName yX1_isNote.cls = true := by decide +kernel
theorem hv_X1_isTied : yX1_isTied.cls = RX1 ∧ yX1_isTied.cls ≠ "java/lang/invoke/MethodHandle" ∧ yX1_isTied.cls ≠ "java/lang/invoke/VarHandle" ∧ (parseMethodDescriptor yX1_isTied.desc).map (fun d => d.parameters.length) = some 1 := by decide +kernel
theorem hs_X1_isTied : yX1_isTied.cls ≠ "java/lang/invoke/MethodHandle" ∧ yX1_isTied.cls ≠ "java/lang/invoke/VarHandle" ∧ (parseMethodDescriptor yX1_isTied.desc).map (fun d => d.parameters.length) = some 1 := hv_X1_isTied.2
theorem hp_X1_isTied : plainName yX1_isTied.cls = true := by decide +kernel
theorem hv_X1_isJoinedToNext : yX1_isJoinedToNext.cls = RX1 ∧ yX1_isJoinedToNext.cls ≠ "java/lang/invoke/MethodHandle" ∧ yX1_isJoinedToNext.cls ≠ "java/lang/invoke/VarHandle" ∧ (parseMethodDescriptor yX1_isJoinedToNext.desc).map (fun d => d.parameters.length) = some 1 := by decide +kernel
theorem hs_X1_isJoinedToNext : yX1_isJoinedToNext.cls ≠ "java/lang/invoke/MethodHandle" ∧ yX1_isJoinedToNext.cls ≠ "java/lang/invoke/VarHandle" ∧ (parseMethodDescriptor yX1_isJoinedToNext.desc).map (fun d => d.parameters.length) = some 1 := hv_X1_isJoinedToNext.2
theorem hp_X1_isJoinedToNext : plainName yX1_isJoinedToNext.cls = true := by decide +kernel
theorem hv_X1_placeOf : yX1_placeOf.cls = RX1 ∧ yX1_placeOf.cls ≠ "java/lang/invoke/MethodHandle" ∧ yX1_placeOf.cls ≠ "java/lang/invoke/VarHandle" ∧ (parseMethodDescriptor yX1_placeOf.desc).map (fun d => d.parameters.length) = some 1 := by decide +kernel
theorem hs_X1_placeOf : yX1_placeOf.cls ≠ "java/lang/invoke/MethodHandle" ∧ yX1_placeOf.cls ≠ "java/lang/invoke/VarHandle" ∧ (parseMethodDescriptor yX1_placeOf.desc).map (fun d => d.parameters.length) = some 1 := hv_X1_placeOf.2
theorem hp_X1_placeOf : plainName yX1_placeOf.cls = true := by decide +kernel
theorem hv_X1_append : yX1_append.cls = RX1 ∧ yX1_append.cls ≠ "java/lang/invoke/MethodHandle" ∧ yX1_append.cls ≠ "java/lang/invoke/VarHandle" ∧ (parseMethodDescriptor yX1_append.desc).map (fun d => d.parameters.length) = some 2 := by decide +kernel
theorem hs_X1_append : yX1_append.cls ≠ "java/lang/invoke/MethodHandle" ∧ yX1_append.cls ≠ "java/lang/invoke/VarHandle" ∧ (parseMethodDescriptor yX1_append.desc).map (fun d => d.parameters.length) = some 2 := hv_X1_append.2
theorem hp_X1_append : plainName yX1_append.cls = true := by decide +kernel
theorem hv_X1_dropLast : yX1_dropLast.cls = RX1 ∧ yX1_dropLast.cls ≠ "java/lang/invoke/MethodHandle" ∧ yX1_dropLast.cls ≠ "java/lang/invoke/VarHandle" ∧ (parseMethodDescriptor yX1_dropLast.desc).map (fun d => d.parameters.length) = some 0 := by decide +kernel
theorem hs_X1_dropLast : yX1_dropLast.cls ≠ "java/lang/invoke/MethodHandle" ∧ yX1_dropLast.cls ≠ "java/lang/invoke/VarHandle" ∧ (parseMethodDescriptor yX1_dropLast.desc).map (fun d => d.parameters.length) = some 0 := hv_X1_dropLast.2
theorem hp_X1_dropLast : plainName yX1_dropLast.cls = true := by decide +kernel
theorem hv_X1_putPitch : yX1_putPitch.cls = RX1 ∧ yX1_putPitch.cls ≠ "java/lang/invoke/MethodHandle" ∧ yX1_putPitch.cls ≠ "java/lang/invoke/VarHandle" ∧ (parseMethodDescriptor yX1_putPitch.desc).map (fun d => d.parameters.length) = some 4 := by decide +kernel
theorem hs_X1_putPitch : yX1_putPitch.cls ≠ "java/lang/invoke/MethodHandle" ∧ yX1_putPitch.cls ≠ "java/lang/invoke/VarHandle" ∧ (parseMethodDescriptor yX1_putPitch.desc).map (fun d => d.parameters.length) = some 4 := hv_X1_putPitch.2
theorem hp_X1_putPitch : plainName yX1_putPitch.cls = true := by decide +kernel
theorem hv_X1_canTranspose : yX1_canTranspose.cls = RX1 ∧ yX1_canTranspose.cls ≠ "java/lang/invoke/MethodHandle" ∧ yX1_canTranspose.cls ≠ "java/lang/invoke/VarHandle" ∧ (parseMethodDescriptor yX1_canTranspose.desc).map (fun d => d.parameters.length) = some 2 := by decide +kernel
theorem hs_X1_canTranspose : yX1_canTranspose.cls ≠ "java/lang/invoke/MethodHandle" ∧ yX1_canTranspose.cls ≠ "java/lang/invoke/VarHandle" ∧ (parseMethodDescriptor yX1_canTranspose.desc).map (fun d => d.parameters.length) = some 2 := hv_X1_canTranspose.2
theorem hp_X1_canTranspose : plainName yX1_canTranspose.cls = true := by decide +kernel
theorem hv_X1_moveNotes : yX1_moveNotes.cls = RX1 ∧ yX1_moveNotes.cls ≠ "java/lang/invoke/MethodHandle" ∧ yX1_moveNotes.cls ≠ "java/lang/invoke/VarHandle" ∧ (parseMethodDescriptor yX1_moveNotes.desc).map (fun d => d.parameters.length) = some 2 := by decide +kernel
theorem hs_X1_moveNotes : yX1_moveNotes.cls ≠ "java/lang/invoke/MethodHandle" ∧ yX1_moveNotes.cls ≠ "java/lang/invoke/VarHandle" ∧ (parseMethodDescriptor yX1_moveNotes.desc).map (fun d => d.parameters.length) = some 2 := hv_X1_moveNotes.2
theorem hp_X1_moveNotes : plainName yX1_moveNotes.cls = true := by decide +kernel
theorem hv_X1_countLooseTies : yX1_countLooseTies.cls = RX1 ∧ yX1_countLooseTies.cls ≠ "java/lang/invoke/MethodHandle" ∧ yX1_countLooseTies.cls ≠ "java/lang/invoke/VarHandle" ∧ (parseMethodDescriptor yX1_countLooseTies.desc).map (fun d => d.parameters.length) = some 0 := by decide +kernel
theorem hs_X1_countLooseTies : yX1_countLooseTies.cls ≠ "java/lang/invoke/MethodHandle" ∧ yX1_countLooseTies.cls ≠ "java/lang/invoke/VarHandle" ∧ (parseMethodDescriptor yX1_countLooseTies.desc).map (fun d => d.parameters.length) = some 0 := hv_X1_countLooseTies.2
theorem hp_X1_countLooseTies : plainName yX1_countLooseTies.cls = true := by decide +kernel
theorem hv_X1_toneAt : yX1_toneAt.cls = RX1 ∧ yX1_toneAt.cls ≠ "java/lang/invoke/MethodHandle" ∧ yX1_toneAt.cls ≠ "java/lang/invoke/VarHandle" ∧ (parseMethodDescriptor yX1_toneAt.desc).map (fun d => d.parameters.length) = some 1 := by decide +kernel
theorem hs_X1_toneAt : yX1_toneAt.cls ≠ "java/lang/invoke/MethodHandle" ∧ yX1_toneAt.cls ≠ "java/lang/invoke/VarHandle" ∧ (parseMethodDescriptor yX1_toneAt.desc).map (fun d => d.parameters.length) = some 1 := hv_X1_toneAt.2
theorem hp_X1_toneAt : plainName yX1_toneAt.cls = true := by decide +kernel
theorem hv_X1_arrange : yX1_arrange.cls = RX1 ∧ yX1_arrange.cls ≠ "java/lang/invoke/MethodHandle" ∧ yX1_arrange.cls ≠ "java/lang/invoke/VarHandle" ∧ (parseMethodDescriptor yX1_arrange.desc).map (fun d => d.parameters.length) = some 2 := by decide +kernel
theorem hs_X1_arrange : yX1_arrange.cls ≠ "java/lang/invoke/MethodHandle" ∧ yX1_arrange.cls ≠ "java/lang/invoke/VarHandle" ∧ (parseMethodDescriptor yX1_arrange.desc).map (fun d => d.parameters.length) = some 2 := hv_X1_arrange.2
theorem hp_X1_arrange : plainName yX1_arrange.cls = true := by decide +kernel
theorem hv_X1_arrangeTones : yX1_arrangeTones.cls = RX1 ∧ yX1_arrangeTones.cls ≠ "java/lang/invoke/MethodHandle" ∧ yX1_arrangeTones.cls ≠ "java/lang/invoke/VarHandle" ∧ (parseMethodDescriptor yX1_arrangeTones.desc).map (fun d => d.parameters.length) = some 0 := by decide +kernel
theorem hs_X1_arrangeTones : yX1_arrangeTones.cls ≠ "java/lang/invoke/MethodHandle" ∧ yX1_arrangeTones.cls ≠ "java/lang/invoke/VarHandle" ∧ (parseMethodDescriptor yX1_arrangeTones.desc).map (fun d => d.parameters.length) = some 0 := hv_X1_arrangeTones.2
theorem hp_X1_arrangeTones : plainName yX1_arrangeTones.cls = true := by decide +kernel
theorem hv_X1_arrangeSounds : yX1_arrangeSounds.cls = RX1 ∧ yX1_arrangeSounds.cls ≠ "java/lang/invoke/MethodHandle" ∧ yX1_arrangeSounds.cls ≠ "java/lang/invoke/VarHandle" ∧ (parseMethodDescriptor yX1_arrangeSounds.desc).map (fun d => d.parameters.length) = some 0 := by decide +kernel
theorem hs_X1_arrangeSounds : yX1_arrangeSounds.cls ≠ "java/lang/invoke/MethodHandle" ∧ yX1_arrangeSounds.cls ≠ "java/lang/invoke/VarHandle" ∧ (parseMethodDescriptor yX1_arrangeSounds.desc).map (fun d => d.parameters.length) = some 0 := hv_X1_arrangeSounds.2
theorem hp_X1_arrangeSounds : plainName yX1_arrangeSounds.cls = true := by decide +kernel
theorem hv_X1_arrangeSigns : yX1_arrangeSigns.cls = RX1 ∧ yX1_arrangeSigns.cls ≠ "java/lang/invoke/MethodHandle" ∧ yX1_arrangeSigns.cls ≠ "java/lang/invoke/VarHandle" ∧ (parseMethodDescriptor yX1_arrangeSigns.desc).map (fun d => d.parameters.length) = some 1 := by decide +kernel
theorem hs_X1_arrangeSigns : yX1_arrangeSigns.cls ≠ "java/lang/invoke/MethodHandle" ∧ yX1_arrangeSigns.cls ≠ "java/lang/invoke/VarHandle" ∧ (parseMethodDescriptor yX1_arrangeSigns.desc).map (fun d => d.parameters.length) = some 1 := hv_X1_arrangeSigns.2
theorem hp_X1_arrangeSigns : plainName yX1_arrangeSigns.cls = true := by decide +kernel
theorem hv_X1_arrangeBeams : yX1_arrangeBeams.cls = RX1 ∧ yX1_arrangeBeams.cls ≠ "java/lang/invoke/MethodHandle" ∧ yX1_arrangeBeams.cls ≠ "java/lang/invoke/VarHandle" ∧ (parseMethodDescriptor yX1_arrangeBeams.desc).map (fun d => d.parameters.length) = some 1 := by decide +kernel
theorem hs_X1_arrangeBeams : yX1_arrangeBeams.cls ≠ "java/lang/invoke/MethodHandle" ∧ yX1_arrangeBeams.cls ≠ "java/lang/invoke/VarHandle" ∧ (parseMethodDescriptor yX1_arrangeBeams.desc).map (fun d => d.parameters.length) = some 1 := hv_X1_arrangeBeams.2
theorem hp_X1_arrangeBeams : plainName yX1_arrangeBeams.cls = true := by decide +kernel
theorem hv_X1_isGrouped : yX1_isGrouped.cls = RX1 ∧ yX1_isGrouped.cls ≠ "java/lang/invoke/MethodHandle" ∧ yX1_isGrouped.cls ≠ "java/lang/invoke/VarHandle" ∧ (parseMethodDescriptor yX1_isGrouped.desc).map (fun d => d.parameters.length) = some 2 := by decide +kernel
theorem hs_X1_isGrouped : yX1_isGrouped.cls ≠ "java/lang/invoke/MethodHandle" ∧ yX1_isGrouped.cls ≠ "java/lang/invoke/VarHandle" ∧ (parseMethodDescriptor yX1_isGrouped.desc).map (fun d => d.parameters.length) = some 2 := hv_X1_isGrouped.2
theorem hp_X1_isGrouped : plainName yX1_isGrouped.cls = true := by decide +kernel
theorem hv_X1_isShortNote : yX1_isShortNote.cls = RX1 ∧ yX1_isShortNote.cls ≠ "java/lang/invoke/MethodHandle" ∧ yX1_isShortNote.cls ≠ "java/lang/invoke/VarHandle" ∧ (parseMethodDescriptor yX1_isShortNote.desc).map (fun d => d.parameters.length) = some 1 := by decide +kernel
theorem hs_X1_isShortNote : yX1_isShortNote.cls ≠ "java/lang/invoke/MethodHandle" ∧ yX1_isShortNote.cls ≠ "java/lang/invoke/VarHandle" ∧ (parseMethodDescriptor yX1_isShortNote.desc).map (fun d => d.parameters.length) = some 1 := hv_X1_isShortNote.2
theorem hp_X1_isShortNote : plainName yX1_isShortNote.cls = true := by decide +kernel
theorem hv_X2_init : yX2_init.cls = RX2 ∧ yX2_init.cls ≠ "java/lang/invoke/MethodHandle" ∧ yX2_init.cls ≠ "java/lang/invoke/VarHandle" ∧ (parseMethodDescriptor yX2_init.desc).map (fun d => d.parameters.length) = some 0 := by decide +kernel
theorem hs_X2_init : yX2_init.cls ≠ "java/lang/invoke/MethodHandle" ∧ yX2_init.cls ≠ "java/lang/invoke/VarHandle" ∧ (parseMethodDescriptor yX2_init.desc).map (fun d => d.parameters.length) = some 0 := hv_X2_init.2
theorem hp_X2_init : plainName yX2_init.cls = true := by decide +kernel
theorem hv_X2_setBars : yX2_setBars.cls = RX2 ∧ yX2_setBars.cls ≠ "java/lang/invoke/MethodHandle" ∧ yX2_setBars.cls ≠ "java/lang/invoke/VarHandle" ∧ (parseMethodDescriptor yX2_setBars.desc).map (fun d => d.parameters.length) = some 2 := by decide +kernel
theorem hs_X2_setBars : yX2_setBars.cls ≠ "java/lang/invoke/MethodHandle" ∧ yX2_setBars.cls ≠ "java/lang/invoke/VarHandle" ∧ (parseMethodDescriptor yX2_setBars.desc).map (fun d => d.parameters.length) = some 2 := hv_X2_setBars.2
theorem hp_X2_setBars : plainName yX2_setBars.cls = true := by decide +kernel
theorem hv_X2_setKey : yX2_setKey.cls = RX2 ∧ yX2_setKey.cls ≠ "java/lang/invoke/MethodHandle" ∧ yX2_setKey.cls ≠ "java/lang/invoke/VarHandle" ∧ (parseMethodDescriptor yX2_setKey.desc).map (fun d => d.parameters.length) = some 1 := by decide +kernel
theorem hs_X2_setKey : yX2_setKey.cls ≠ "java/lang/invoke/MethodHandle" ∧ yX2_setKey.cls ≠ "java/lang/invoke/VarHandle" ∧ (parseMethodDescriptor yX2_setKey.desc).map (fun d => d.parameters.length) = some 1 := hv_X2_setKey.2
theorem hp_X2_setKey : plainName yX2_setKey.cls = true := by decide +kernel
theorem hv_X2_addVoice : yX2_addVoice.cls = RX2 ∧ yX2_addVoice.cls ≠ "java/lang/invoke/MethodHandle" ∧ yX2_addVoice.cls ≠ "java/lang/invoke/VarHandle" ∧ (parseMethodDescriptor yX2_addVoice.desc).map (fun d => d.parameters.length) = some 0 := by decide +kernel
theorem hs_X2_addVoice : yX2_addVoice.cls ≠ "java/lang/invoke/MethodHandle" ∧ yX2_addVoice.cls ≠ "java/lang/invoke/VarHandle" ∧ (parseMethodDescriptor yX2_addVoice.desc).map (fun d => d.parameters.length) = some 0 := hv_X2_addVoice.2
theorem hp_X2_addVoice : plainName yX2_addVoice.cls = true := by decide +kernel
theorem hv_X2_score : yX2_score.cls = RX2 ∧ yX2_score.cls ≠ "java/lang/invoke/MethodHandle" ∧ yX2_score.cls ≠ "java/lang/invoke/VarHandle" ∧ (parseMethodDescriptor yX2_score.desc).map (fun d => d.parameters.length) = some 1 := by decide +kernel
theorem hs_X2_score : yX2_score.cls ≠ "java/lang/invoke/MethodHandle" ∧ yX2_score.cls ≠ "java/lang/invoke/VarHandle" ∧ (parseMethodDescriptor yX2_score.desc).map (fun d => d.parameters.length) = some 1 := hv_X2_score.2
theorem hp_X2_score : plainName yX2_score.cls = true := by decide +kernel
theorem hv_X2_sign : yX2_sign.cls = RX2 ∧ yX2_sign.cls ≠ "java/lang/invoke/MethodHandle" ∧ yX2_sign.cls ≠ "java/lang/invoke/VarHandle" ∧ (parseMethodDescriptor yX2_sign.desc).map (fun d => d.parameters.length) = some 1 := by decide +kernel
theorem hs_X2_sign : yX2_sign.cls ≠ "java/lang/invoke/MethodHandle" ∧ yX2_sign.cls ≠ "java/lang/invoke/VarHandle" ∧ (parseMethodDescriptor yX2_sign.desc).map (fun d => d.parameters.length) = some 1 := hv_X2_sign.2
theorem hp_X2_sign : plainName yX2_sign.cls = true := by decide +kernel
theorem hv_X2_ticks : yX2_ticks.cls = RX2 ∧ yX2_ticks.cls ≠ "java/lang/invoke/MethodHandle" ∧ yX2_ticks.cls ≠ "java/lang/invoke/VarHandle" ∧ (parseMethodDescriptor yX2_ticks.desc).map (fun d => d.parameters.length) = some 2 := by decide +kernel
theorem hs_X2_ticks : yX2_ticks.cls ≠ "java/lang/invoke/MethodHandle" ∧ yX2_ticks.cls ≠ "java/lang/invoke/VarHandle" ∧ (parseMethodDescriptor yX2_ticks.desc).map (fun d => d.parameters.length) = some 2 := hv_X2_ticks.2
theorem hp_X2_ticks : plainName yX2_ticks.cls = true := by decide +kernel
theorem hv_X2_addNote : yX2_addNote.cls = RX2 ∧ yX2_addNote.cls ≠ "java/lang/invoke/MethodHandle" ∧ yX2_addNote.cls ≠ "java/lang/invoke/VarHandle" ∧ (parseMethodDescriptor yX2_addNote.desc).map (fun d => d.parameters.length) = some 7 := by decide +kernel
theorem hs_X2_addNote : yX2_addNote.cls ≠ "java/lang/invoke/MethodHandle" ∧ yX2_addNote.cls ≠ "java/lang/invoke/VarHandle" ∧ (parseMethodDescriptor yX2_addNote.desc).map (fun d => d.parameters.length) = some 7 := hv_X2_addNote.2
theorem hp_X2_addNote : plainName yX2_addNote.cls = true := by decide +kernel
theorem hv_X2_addRest : yX2_addRest.cls = RX2 ∧ yX2_addRest.cls ≠ "java/lang/invoke/MethodHandle" ∧ yX2_addRest.cls ≠ "java/lang/invoke/VarHandle" ∧ (parseMethodDescriptor yX2_addRest.desc).map (fun d => d.parameters.length) = some 3 := by decide +kernel
theorem hs_X2_addRest : yX2_addRest.cls ≠ "java/lang/invoke/MethodHandle" ∧ yX2_addRest.cls ≠ "java/lang/invoke/VarHandle" ∧ (parseMethodDescriptor yX2_addRest.desc).map (fun d => d.parameters.length) = some 3 := hv_X2_addRest.2
theorem hp_X2_addRest : plainName yX2_addRest.cls = true := by decide +kernel
theorem hv_X2_removeLast : yX2_removeLast.cls = RX2 ∧ yX2_removeLast.cls ≠ "java/lang/invoke/MethodHandle" ∧ yX2_removeLast.cls ≠ "java/lang/invoke/VarHandle" ∧ (parseMethodDescriptor yX2_removeLast.desc).map (fun d => d.parameters.length) = some 1 := by decide +kernel
theorem hs_X2_removeLast : yX2_removeLast.cls ≠ "java/lang/invoke/MethodHandle" ∧ yX2_removeLast.cls ≠ "java/lang/invoke/VarHandle" ∧ (parseMethodDescriptor yX2_removeLast.desc).map (fun d => d.parameters.length) = some 1 := hv_X2_removeLast.2
theorem hp_X2_removeLast : plainName yX2_removeLast.cls = true := by decide +kernel
theorem hv_X2_tie : yX2_tie.cls = RX2 ∧ yX2_tie.cls ≠ "java/lang/invoke/MethodHandle" ∧ yX2_tie.cls ≠ "java/lang/invoke/VarHandle" ∧ (parseMethodDescriptor yX2_tie.desc).map (fun d => d.parameters.length) = some 3 := by decide +kernel
theorem hs_X2_tie : yX2_tie.cls ≠ "java/lang/invoke/MethodHandle" ∧ yX2_tie.cls ≠ "java/lang/invoke/VarHandle" ∧ (parseMethodDescriptor yX2_tie.desc).map (fun d => d.parameters.length) = some 3 := hv_X2_tie.2
theorem hp_X2_tie : plainName yX2_tie.cls = true := by decide +kernel
theorem hv_X2_element : yX2_element.cls = RX2 ∧ yX2_element.cls ≠ "java/lang/invoke/MethodHandle" ∧ yX2_element.cls ≠ "java/lang/invoke/VarHandle" ∧ (parseMethodDescriptor yX2_element.desc).map (fun d => d.parameters.length) = some 3 := by decide +kernel
theorem hs_X2_element : yX2_element.cls ≠ "java/lang/invoke/MethodHandle" ∧ yX2_element.cls ≠ "java/lang/invoke/VarHandle" ∧ (parseMethodDescriptor yX2_element.desc).map (fun d => d.parameters.length) = some 3 := hv_X2_element.2
theorem hp_X2_element : plainName yX2_element.cls = true := by decide +kernel
theorem hv_X2_pitch : yX2_pitch.cls = RX2 ∧ yX2_pitch.cls ≠ "java/lang/invoke/MethodHandle" ∧ yX2_pitch.cls ≠ "java/lang/invoke/VarHandle" ∧ (parseMethodDescriptor yX2_pitch.desc).map (fun d => d.parameters.length) = some 3 := by decide +kernel
theorem hs_X2_pitch : yX2_pitch.cls ≠ "java/lang/invoke/MethodHandle" ∧ yX2_pitch.cls ≠ "java/lang/invoke/VarHandle" ∧ (parseMethodDescriptor yX2_pitch.desc).map (fun d => d.parameters.length) = some 3 := hv_X2_pitch.2
theorem hp_X2_pitch : plainName yX2_pitch.cls = true := by decide +kernel
theorem hv_X2_voice : yX2_voice.cls = RX2 ∧ yX2_voice.cls ≠ "java/lang/invoke/MethodHandle" ∧ yX2_voice.cls ≠ "java/lang/invoke/VarHandle" ∧ (parseMethodDescriptor yX2_voice.desc).map (fun d => d.parameters.length) = some 2 := by decide +kernel
theorem hs_X2_voice : yX2_voice.cls ≠ "java/lang/invoke/MethodHandle" ∧ yX2_voice.cls ≠ "java/lang/invoke/VarHandle" ∧ (parseMethodDescriptor yX2_voice.desc).map (fun d => d.parameters.length) = some 2 := hv_X2_voice.2
theorem hp_X2_voice : plainName yX2_voice.cls = true := by decide +kernel
theorem hv_X2_transpose : yX2_transpose.cls = RX2 ∧ yX2_transpose.cls ≠ "java/lang/invoke/MethodHandle" ∧ yX2_transpose.cls ≠ "java/lang/invoke/VarHandle" ∧ (parseMethodDescriptor yX2_transpose.desc).map (fun d => d.parameters.length) = some 2 := by decide +kernel
theorem hs_X2_transpose : yX2_transpose.cls ≠ "java/lang/invoke/MethodHandle" ∧ yX2_transpose.cls ≠ "java/lang/invoke/VarHandle" ∧ (parseMethodDescriptor yX2_transpose.desc).map (fun d => d.parameters.length) = some 2 := hv_X2_transpose.2
theorem hp_X2_transpose : plainName yX2_transpose.cls = true := by decide +kernel
theorem hv_X2_faults : yX2_faults.cls = RX2 ∧ yX2_faults.cls ≠ "java/lang/invoke/MethodHandle" ∧ yX2_faults.cls ≠ "java/lang/invoke/VarHandle" ∧ (parseMethodDescriptor yX2_faults.desc).map (fun d => d.parameters.length) = some 0 := by decide +kernel
theorem hs_X2_faults : yX2_faults.cls ≠ "java/lang/invoke/MethodHandle" ∧ yX2_faults.cls ≠ "java/lang/invoke/VarHandle" ∧ (parseMethodDescriptor yX2_faults.desc).map (fun d => d.parameters.length) = some 0 := hv_X2_faults.2
theorem hp_X2_faults : plainName yX2_faults.cls = true := by decide +kernel
theorem hv_X2_interval : yX2_interval.cls = RX2 ∧ yX2_interval.cls ≠ "java/lang/invoke/MethodHandle" ∧ yX2_interval.cls ≠ "java/lang/invoke/VarHandle" ∧ (parseMethodDescriptor yX2_interval.desc).map (fun d => d.parameters.length) = some 3 := by decide +kernel
theorem hs_X2_interval : yX2_interval.cls ≠ "java/lang/invoke/MethodHandle" ∧ yX2_interval.cls ≠ "java/lang/invoke/VarHandle" ∧ (parseMethodDescriptor yX2_interval.desc).map (fun d => d.parameters.length) = some 3 := hv_X2_interval.2
theorem hp_X2_interval : plainName yX2_interval.cls = true := by decide +kernel
theorem hv_X2_event : yX2_event.cls = RX2 ∧ yX2_event.cls ≠ "java/lang/invoke/MethodHandle" ∧ yX2_event.cls ≠ "java/lang/invoke/VarHandle" ∧ (parseMethodDescriptor yX2_event.desc).map (fun d => d.parameters.length) = some 2 := by decide +kernel
theorem hs_X2_event : yX2_event.cls ≠ "java/lang/invoke/MethodHandle" ∧ yX2_event.cls ≠ "java/lang/invoke/VarHandle" ∧ (parseMethodDescriptor yX2_event.desc).map (fun d => d.parameters.length) = some 2 := hv_X2_event.2
theorem hp_X2_event : plainName yX2_event.cls = true := by decide +kernel
theorem hv_X2_events : yX2_events.cls = RX2 ∧ yX2_events.cls ≠ "java/lang/invoke/MethodHandle" ∧ yX2_events.cls ≠ "java/lang/invoke/VarHandle" ∧ (parseMethodDescriptor yX2_events.desc).map (fun d => d.parameters.length) = some 0 := by decide +kernel
theorem hs_X2_events : yX2_events.cls ≠ "java/lang/invoke/MethodHandle" ∧ yX2_events.cls ≠ "java/lang/invoke/VarHandle" ∧ (parseMethodDescriptor yX2_events.desc).map (fun d => d.parameters.length) = some 0 := hv_X2_events.2
theorem hp_X2_events : plainName yX2_events.cls = true := by decide +kernel
theorem hv_X2_time : yX2_time.cls = RX2 ∧ yX2_time.cls ≠ "java/lang/invoke/MethodHandle" ∧ yX2_time.cls ≠ "java/lang/invoke/VarHandle" ∧ (parseMethodDescriptor yX2_time.desc).map (fun d => d.parameters.length) = some 2 := by decide +kernel
theorem hs_X2_time : yX2_time.cls ≠ "java/lang/invoke/MethodHandle" ∧ yX2_time.cls ≠ "java/lang/invoke/VarHandle" ∧ (parseMethodDescriptor yX2_time.desc).map (fun d => d.parameters.length) = some 2 := hv_X2_time.2
theorem hp_X2_time : plainName yX2_time.cls = true := by decide +kernel
theorem hv_X2_meanTone : yX2_meanTone.cls = RX2 ∧ yX2_meanTone.cls ≠ "java/lang/invoke/MethodHandle" ∧ yX2_meanTone.cls ≠ "java/lang/invoke/VarHandle" ∧ (parseMethodDescriptor yX2_meanTone.desc).map (fun d => d.parameters.length) = some 0 := by decide +kernel
theorem hs_X2_meanTone : yX2_meanTone.cls ≠ "java/lang/invoke/MethodHandle" ∧ yX2_meanTone.cls ≠ "java/lang/invoke/VarHandle" ∧ (parseMethodDescriptor yX2_meanTone.desc).map (fun d => d.parameters.length) = some 0 := hv_X2_meanTone.2
theorem hp_X2_meanTone : plainName yX2_meanTone.cls = true := by decide +kernel
theorem hv_X2_digest : yX2_digest.cls = RX2 ∧ yX2_digest.cls ≠ "java/lang/invoke/MethodHandle" ∧ yX2_digest.cls ≠ "java/lang/invoke/VarHandle" ∧ (parseMethodDescriptor yX2_digest.desc).map (fun d => d.parameters.length) = some 0 := by decide +kernel
theorem hs_X2_digest : yX2_digest.cls ≠ "java/lang/invoke/MethodHandle" ∧ yX2_digest.cls ≠ "java/lang/invoke/VarHandle" ∧ (parseMethodDescriptor yX2_digest.desc).map (fun d => d.parameters.length) = some 0 := hv_X2_digest.2
theorem hp_X2_digest : plainName yX2_digest.cls = true := by decide +kernel
theorem hv_X2_requireVoice : yX2_requireVoice.cls = RX2 ∧ yX2_requireVoice.cls ≠ "java/lang/invoke/MethodHandle" ∧ yX2_requireVoice.cls ≠ "java/lang/invoke/VarHandle" ∧ (parseMethodDescriptor yX2_requireVoice.desc).map (fun d => d.parameters.length) = some 1 := by decide +kernel
theorem hs_X2_requireVoice : yX2_requireVoice.cls ≠ "java/lang/invoke/MethodHandle" ∧ yX2_requireVoice.cls ≠ "java/lang/invoke/VarHandle" ∧ (parseMethodDescriptor yX2_requireVoice.desc).map (fun d => d.parameters.length) = some 1 := hv_X2_requireVoice.2
theorem hp_X2_requireVoice : plainName yX2_requireVoice.cls = true := by decide +kernel
theorem hv_X2_requireElement : yX2_requireElement.cls = RX2 ∧ yX2_requireElement.cls ≠ "java/lang/invoke/MethodHandle" ∧ yX2_requireElement.cls ≠ "java/lang/invoke/VarHandle" ∧ (parseMethodDescriptor yX2_requireElement.desc).map (fun d => d.parameters.length) = some 2 := by decide +kernel
theorem hs_X2_requireElement : yX2_requireElement.cls ≠ "java/lang/invoke/MethodHandle" ∧ yX2_requireElement.cls ≠ "java/lang/invoke/VarHandle" ∧ (parseMethodDescriptor yX2_requireElement.desc).map (fun d => d.parameters.length) = some 2 := hv_X2_requireElement.2
theorem hp_X2_requireElement : plainName yX2_requireElement.cls = true := by decide +kernel
theorem hv_X2_greatestEnd : yX2_greatestEnd.cls = RX2 ∧ yX2_greatestEnd.cls ≠ "java/lang/invoke/MethodHandle" ∧ yX2_greatestEnd.cls ≠ "java/lang/invoke/VarHandle" ∧ (parseMethodDescriptor yX2_greatestEnd.desc).map (fun d => d.parameters.length) = some 0 := by decide +kernel
theorem hs_X2_greatestEnd : yX2_greatestEnd.cls ≠ "java/lang/invoke/MethodHandle" ∧ yX2_greatestEnd.cls ≠ "java/lang/invoke/VarHandle" ∧ (parseMethodDescriptor yX2_greatestEnd.desc).map (fun d => d.parameters.length) = some 0 := hv_X2_greatestEnd.2
theorem hp_X2_greatestEnd : plainName yX2_greatestEnd.cls = true := by decide +kernel
theorem hv_X2_barsBegun : yX2_barsBegun.cls = RX2 ∧ yX2_barsBegun.cls ≠ "java/lang/invoke/MethodHandle" ∧ yX2_barsBegun.cls ≠ "java/lang/invoke/VarHandle" ∧ (parseMethodDescriptor yX2_barsBegun.desc).map (fun d => d.parameters.length) = some 0 := by decide +kernel
theorem hs_X2_barsBegun : yX2_barsBegun.cls ≠ "java/lang/invoke/MethodHandle" ∧ yX2_barsBegun.cls ≠ "java/lang/invoke/VarHandle" ∧ (parseMethodDescriptor yX2_barsBegun.desc).map (fun d => d.parameters.length) = some 0 := hv_X2_barsBegun.2
theorem hp_X2_barsBegun : plainName yX2_barsBegun.cls = true := by decide +kernel
theorem hv_X2_arrangeOne : yX2_arrangeOne.cls = RX2 ∧ yX2_arrangeOne.cls ≠ "java/lang/invoke/MethodHandle" ∧ yX2_arrangeOne.cls ≠ "java/lang/invoke/VarHandle" ∧ (parseMethodDescriptor yX2_arrangeOne.desc).map (fun d => d.parameters.length) = some 1 := by decide +kernel
theorem hs_X2_arrangeOne : yX2_arrangeOne.cls ≠ "java/lang/invoke/MethodHandle" ∧ yX2_arrangeOne.cls ≠ "java/lang/invoke/VarHandle" ∧ (parseMethodDescriptor yX2_arrangeOne.desc).map (fun d => d.parameters.length) = some 1 := hv_X2_arrangeOne.2
theorem hp_X2_arrangeOne : plainName yX2_arrangeOne.cls = true := by decide +kernel
theorem hv_X2_arrangeAll : yX2_arrangeAll.cls = RX2 ∧ yX2_arrangeAll.cls ≠ "java/lang/invoke/MethodHandle" ∧ yX2_arrangeAll.cls ≠ "java/lang/invoke/VarHandle" ∧ (parseMethodDescriptor yX2_arrangeAll.desc).map (fun d => d.parameters.length) = some 0 := by decide +kernel
theorem hs_X2_arrangeAll : yX2_arrangeAll.cls ≠ "java/lang/invoke/MethodHandle" ∧ yX2_arrangeAll.cls ≠ "java/lang/invoke/VarHandle" ∧ (parseMethodDescriptor yX2_arrangeAll.desc).map (fun d => d.parameters.length) = some 0 := hv_X2_arrangeAll.2
theorem hp_X2_arrangeAll : plainName yX2_arrangeAll.cls = true := by decide +kernel
theorem hv_X2_addPieces : yX2_addPieces.cls = RX2 ∧ yX2_addPieces.cls ≠ "java/lang/invoke/MethodHandle" ∧ yX2_addPieces.cls ≠ "java/lang/invoke/VarHandle" ∧ (parseMethodDescriptor yX2_addPieces.desc).map (fun d => d.parameters.length) = some 2 := by decide +kernel
theorem hs_X2_addPieces : yX2_addPieces.cls ≠ "java/lang/invoke/MethodHandle" ∧ yX2_addPieces.cls ≠ "java/lang/invoke/VarHandle" ∧ (parseMethodDescriptor yX2_addPieces.desc).map (fun d => d.parameters.length) = some 2 := hv_X2_addPieces.2
theorem hp_X2_addPieces : plainName yX2_addPieces.cls = true := by decide +kernel
theorem hv_X2_planPieces : yX2_planPieces.cls = RX2 ∧ yX2_planPieces.cls ≠ "java/lang/invoke/MethodHandle" ∧ yX2_planPieces.cls ≠ "java/lang/invoke/VarHandle" ∧ (parseMethodDescriptor yX2_planPieces.desc).map (fun d => d.parameters.length) = some 2 := by decide +kernel
theorem hs_X2_planPieces : yX2_planPieces.cls ≠ "java/lang/invoke/MethodHandle" ∧ yX2_planPieces.cls ≠ "java/lang/invoke/VarHandle" ∧ (parseMethodDescriptor yX2_planPieces.desc).map (fun d => d.parameters.length) = some 2 := hv_X2_planPieces.2
theorem hp_X2_planPieces : plainName yX2_planPieces.cls = true := by decide +kernel
theorem hv_X2_greatestValue : yX2_greatestValue.cls = RX2 ∧ yX2_greatestValue.cls ≠ "java/lang/invoke/MethodHandle" ∧ yX2_greatestValue.cls ≠ "java/lang/invoke/VarHandle" ∧ (parseMethodDescriptor yX2_greatestValue.desc).map (fun d => d.parameters.length) = some 1 := by decide +kernel
theorem hs_X2_greatestValue : yX2_greatestValue.cls ≠ "java/lang/invoke/MethodHandle" ∧ yX2_greatestValue.cls ≠ "java/lang/invoke/VarHandle" ∧ (parseMethodDescriptor yX2_greatestValue.desc).map (fun d => d.parameters.length) = some 1 := hv_X2_greatestValue.2
theorem hp_X2_greatestValue : plainName yX2_greatestValue.cls = true := by decide +kernel
theorem hv_X2_findValue : yX2_findValue.cls = RX2 ∧ yX2_findValue.cls ≠ "java/lang/invoke/MethodHandle" ∧ yX2_findValue.cls ≠ "java/lang/invoke/VarHandle" ∧ (parseMethodDescriptor yX2_findValue.desc).map (fun d => d.parameters.length) = some 2 := by decide +kernel
theorem hs_X2_findValue : yX2_findValue.cls ≠ "java/lang/invoke/MethodHandle" ∧ yX2_findValue.cls ≠ "java/lang/invoke/VarHandle" ∧ (parseMethodDescriptor yX2_findValue.desc).map (fun d => d.parameters.length) = some 2 := hv_X2_findValue.2
theorem hp_X2_findValue : plainName yX2_findValue.cls = true := by decide +kernel
theorem hv_X2_wholeParts : yX2_wholeParts.cls = RX2 ∧ yX2_wholeParts.cls ≠ "java/lang/invoke/MethodHandle" ∧ yX2_wholeParts.cls ≠ "java/lang/invoke/VarHandle" ∧ (parseMethodDescriptor yX2_wholeParts.desc).map (fun d => d.parameters.length) = some 2 := by decide +kernel
theorem hs_X2_wholeParts : yX2_wholeParts.cls ≠ "java/lang/invoke/MethodHandle" ∧ yX2_wholeParts.cls ≠ "java/lang/invoke/VarHandle" ∧ (parseMethodDescriptor yX2_wholeParts.desc).map (fun d => d.parameters.length) = some 2 := hv_X2_wholeParts.2
theorem hp_X2_wholeParts : plainName yX2_wholeParts.cls = true := by decide +kernel
theorem hv_X2_isKey : yX2_isKey.cls = RX2 ∧ yX2_isKey.cls ≠ "java/lang/invoke/MethodHandle" ∧ yX2_isKey.cls ≠ "java/lang/invoke/VarHandle" ∧ (parseMethodDescriptor yX2_isKey.desc).map (fun d => d.parameters.length) = some 1 := by decide +kernel
theorem hs_X2_isKey : yX2_isKey.cls ≠ "java/lang/invoke/MethodHandle" ∧ yX2_isKey.cls ≠ "java/lang/invoke/VarHandle" ∧ (parseMethodDescriptor yX2_isKey.desc).map (fun d => d.parameters.length) = some 1 := hv_X2_isKey.2
theorem hp_X2_isKey : plainName yX2_isKey.cls = true := by decide +kernel
theorem hv_X2_signOfKey : yX2_signOfKey.cls = RX2 ∧ yX2_signOfKey.cls ≠ "java/lang/invoke/MethodHandle" ∧ yX2_signOfKey.cls ≠ "java/lang/invoke/VarHandle" ∧ (parseMethodDescriptor yX2_signOfKey.desc).map (fun d => d.parameters.length) = some 2 := by decide +kernel
theorem hs_X2_signOfKey : yX2_signOfKey.cls ≠ "java/lang/invoke/MethodHandle" ∧ yX2_signOfKey.cls ≠ "java/lang/invoke/VarHandle" ∧ (parseMethodDescriptor yX2_signOfKey.desc).map (fun d => d.parameters.length) = some 2 := hv_X2_signOfKey.2
theorem hp_X2_signOfKey : plainName yX2_signOfKey.cls = true := by decide +kernel
theorem hv_X2_toneOf : yX2_toneOf.cls = RX2 ∧ yX2_toneOf.cls ≠ "java/lang/invoke/MethodHandle" ∧ yX2_toneOf.cls ≠ "java/lang/invoke/VarHandle" ∧ (parseMethodDescriptor yX2_toneOf.desc).map (fun d => d.parameters.length) = some 3 := by decide +kernel
theorem hs_X2_toneOf : yX2_toneOf.cls ≠ "java/lang/invoke/MethodHandle" ∧ yX2_toneOf.cls ≠ "java/lang/invoke/VarHandle" ∧ (parseMethodDescriptor yX2_toneOf.desc).map (fun d => d.parameters.length) = some 3 := hv_X2_toneOf.2
theorem hp_X2_toneOf : plainName yX2_toneOf.cls = true := by decide +kernel
theorem hv_X2_stepAt : yX2_stepAt.cls = RX2 ∧ yX2_stepAt.cls ≠ "java/lang/invoke/MethodHandle" ∧ yX2_stepAt.cls ≠ "java/lang/invoke/VarHandle" ∧ (parseMethodDescriptor yX2_stepAt.desc).map (fun d => d.parameters.length) = some 1 := by decide +kernel
theorem hs_X2_stepAt : yX2_stepAt.cls ≠ "java/lang/invoke/MethodHandle" ∧ yX2_stepAt.cls ≠ "java/lang/invoke/VarHandle" ∧ (parseMethodDescriptor yX2_stepAt.desc).map (fun d => d.parameters.length) = some 1 := hv_X2_stepAt.2
theorem hp_X2_stepAt : plainName yX2_stepAt.cls = true := by decide +kernel
theorem hv_X2_octaveAt : yX2_octaveAt.cls = RX2 ∧ yX2_octaveAt.cls ≠ "java/lang/invoke/MethodHandle" ∧ yX2_octaveAt.cls ≠ "java/lang/invoke/VarHandle" ∧ (parseMethodDescriptor yX2_octaveAt.desc).map (fun d => d.parameters.length) = some 1 := by decide +kernel
theorem hs_X2_octaveAt : yX2_octaveAt.cls ≠ "java/lang/invoke/MethodHandle" ∧ yX2_octaveAt.cls ≠ "java/lang/invoke/VarHandle" ∧ (parseMethodDescriptor yX2_octaveAt.desc).map (fun d => d.parameters.length) = some 1 := hv_X2_octaveAt.2
theorem hp_X2_octaveAt : plainName yX2_octaveAt.cls = true := by decide +kernel
theorem hv_X2_signAt : yX2_signAt.cls = RX2 ∧ yX2_signAt.cls ≠ "java/lang/invoke/MethodHandle" ∧ yX2_signAt.cls ≠ "java/lang/invoke/VarHandle" ∧ (parseMethodDescriptor yX2_signAt.desc).map (fun d => d.parameters.length) = some 2 := by decide +kernel
theorem hs_X2_signAt : yX2_signAt.cls ≠ "java/lang/invoke/MethodHandle" ∧ yX2_signAt.cls ≠ "java/lang/invoke/VarHandle" ∧ (parseMethodDescriptor yX2_signAt.desc).map (fun d => d.parameters.length) = some 2 := hv_X2_signAt.2
theorem hp_X2_signAt : plainName yX2_signAt.cls = true := by decide +kernel
theorem hv_X2_isPitch : yX2_isPitch.cls = RX2 ∧ yX2_isPitch.cls ≠ "java/lang/invoke/MethodHandle" ∧ yX2_isPitch.cls ≠ "java/lang/invoke/VarHandle" ∧ (parseMethodDescriptor yX2_isPitch.desc).map (fun d => d.parameters.length) = some 3 := by decide +kernel
theorem hs_X2_isPitch : yX2_isPitch.cls ≠ "java/lang/invoke/MethodHandle" ∧ yX2_isPitch.cls ≠ "java/lang/invoke/VarHandle" ∧ (parseMethodDescriptor yX2_isPitch.desc).map (fun d => d.parameters.length) = some 3 := hv_X2_isPitch.2
theorem hp_X2_isPitch : plainName yX2_isPitch.cls = true := by decide +kernel
theorem hv_X2_countParallels : yX2_countParallels.cls = RX2 ∧ yX2_countParallels.cls ≠ "java/lang/invoke/MethodHandle" ∧ yX2_countParallels.cls ≠ "java/lang/invoke/VarHandle" ∧ (parseMethodDescriptor yX2_countParallels.desc).map (fun d => d.parameters.length) = some 2 := by decide +kernel
theorem hs_X2_countParallels : yX2_countParallels.cls ≠ "java/lang/invoke/MethodHandle" ∧ yX2_countParallels.cls ≠ "java/lang/invoke/VarHandle" ∧ (parseMethodDescriptor yX2_countParallels.desc).map (fun d => d.parameters.length) = some 2 := hv_X2_countParallels.2
theorem hp_X2_countParallels : plainName yX2_countParallels.cls = true := by decide +kernel
theorem hv_X2_isParallel : yX2_isParallel.cls = RX2 ∧ yX2_isParallel.cls ≠ "java/lang/invoke/MethodHandle" ∧ yX2_isParallel.cls ≠ "java/lang/invoke/VarHandle" ∧ (parseMethodDescriptor yX2_isParallel.desc).map (fun d => d.parameters.length) = some 4 := by decide +kernel
theorem hs_X2_isParallel : yX2_isParallel.cls ≠ "java/lang/invoke/MethodHandle" ∧ yX2_isParallel.cls ≠ "java/lang/invoke/VarHandle" ∧ (parseMethodDescriptor yX2_isParallel.desc).map (fun d => d.parameters.length) = some 4 := hv_X2_isParallel.2
theorem hp_X2_isParallel : plainName yX2_isParallel.cls = true := by decide +kernel
theorem hv_X2_countEvents : yX2_countEvents.cls = RX2 ∧ yX2_countEvents.cls ≠ "java/lang/invoke/MethodHandle" ∧ yX2_countEvents.cls ≠ "java/lang/invoke/VarHandle" ∧ (parseMethodDescriptor yX2_countEvents.desc).map (fun d => d.parameters.length) = some 0 := by decide +kernel
theorem hs_X2_countEvents : yX2_countEvents.cls ≠ "java/lang/invoke/MethodHandle" ∧ yX2_countEvents.cls ≠ "java/lang/invoke/VarHandle" ∧ (parseMethodDescriptor yX2_countEvents.desc).map (fun d => d.parameters.length) = some 0 := hv_X2_countEvents.2
theorem hp_X2_countEvents : plainName yX2_countEvents.cls = true := by decide +kernel
theorem hv_X2_refreshEvents : yX2_refreshEvents.cls = RX2 ∧ yX2_refreshEvents.cls ≠ "java/lang/invoke/MethodHandle" ∧ yX2_refreshEvents.cls ≠ "java/lang/invoke/VarHandle" ∧ (parseMethodDescriptor yX2_refreshEvents.desc).map (fun d => d.parameters.length) = some 0 := by decide +kernel
theorem hs_X2_refreshEvents : yX2_refreshEvents.cls ≠ "java/lang/invoke/MethodHandle" ∧ yX2_refreshEvents.cls ≠ "java/lang/invoke/VarHandle" ∧ (parseMethodDescriptor yX2_refreshEvents.desc).map (fun d => d.parameters.length) = some 0 := hv_X2_refreshEvents.2
theorem hp_X2_refreshEvents : plainName yX2_refreshEvents.cls = true := by decide +kernel
theorem hv_X2_digestVoice : yX2_digestVoice.cls = RX2 ∧ yX2_digestVoice.cls ≠ "java/lang/invoke/MethodHandle" ∧ yX2_digestVoice.cls ≠ "java/lang/invoke/VarHandle" ∧ (parseMethodDescriptor yX2_digestVoice.desc).map (fun d => d.parameters.length) = some 2 := by decide +kernel
theorem hs_X2_digestVoice : yX2_digestVoice.cls ≠ "java/lang/invoke/MethodHandle" ∧ yX2_digestVoice.cls ≠ "java/lang/invoke/VarHandle" ∧ (parseMethodDescriptor yX2_digestVoice.desc).map (fun d => d.parameters.length) = some 2 := hv_X2_digestVoice.2
theorem hp_X2_digestVoice : plainName yX2_digestVoice.cls = true := by decide +kernel
theorem hv_X2_digestEvents : yX2_digestEvents.cls = RX2 ∧ yX2_digestEvents.cls ≠ "java/lang/invoke/MethodHandle" ∧ yX2_digestEvents.cls ≠ "java/lang/invoke/VarHandle" ∧ (parseMethodDescriptor yX2_digestEvents.desc).map (fun d => d.parameters.length) = some 1 := by decide +kernel
theorem hs_X2_digestEvents : yX2_digestEvents.cls ≠ "java/lang/invoke/MethodHandle" ∧ yX2_digestEvents.cls ≠ "java/lang/invoke/VarHandle" ∧ (parseMethodDescriptor yX2_digestEvents.desc).map (fun d => d.parameters.length) = some 1 := hv_X2_digestEvents.2
theorem hp_X2_digestEvents : plainName yX2_digestEvents.cls = true := by decide +kernel
theorem hv_X3_init : yX3_init.cls = RX3 ∧ yX3_init.cls ≠ "java/lang/invoke/MethodHandle" ∧ yX3_init.cls ≠ "java/lang/invoke/VarHandle" ∧ (parseMethodDescriptor yX3_init.desc).map (fun d => d.parameters.length) = some 0 := by decide +kernel
theorem hs_X3_init : yX3_init.cls ≠ "java/lang/invoke/MethodHandle" ∧ yX3_init.cls ≠ "java/lang/invoke/VarHandle" ∧ (parseMethodDescriptor yX3_init.desc).map (fun d => d.parameters.length) = some 0 := hv_X3_init.2
theorem hp_X3_init : plainName yX3_init.cls = true := by decide +kernel
theorem hv_X3_thrown : yX3_thrown.cls = RX3 ∧ yX3_thrown.cls ≠ "java/lang/invoke/MethodHandle" ∧ yX3_thrown.cls ≠ "java/lang/invoke/VarHandle" ∧ (parseMethodDescriptor yX3_thrown.desc).map (fun d => d.parameters.length) = some 0 := by decide +kernel
theorem hs_X3_thrown : yX3_thrown.cls ≠ "java/lang/invoke/MethodHandle" ∧ yX3_thrown.cls ≠ "java/lang/invoke/VarHandle" ∧ (parseMethodDescriptor yX3_thrown.desc).map (fun d => d.parameters.length) = some 0 := hv_X3_thrown.2
theorem hp_X3_thrown : plainName yX3_thrown.cls = true := by decide +kernel
theorem hv_X3_fail : yX3_fail.cls = RX3 ∧ yX3_fail.cls ≠ "java/lang/invoke/MethodHandle" ∧ yX3_fail.cls ≠ "java/lang/invoke/VarHandle" ∧ (parseMethodDescriptor yX3_fail.desc).map (fun d => d.parameters.length) = some 1 := by decide +kernel
theorem hs_X3_fail : yX3_fail.cls ≠ "java/lang/invoke/MethodHandle" ∧ yX3_fail.cls ≠ "java/lang/invoke/VarHandle" ∧ (parseMethodDescriptor yX3_fail.desc).map (fun d => d.parameters.length) = some 1 := hv_X3_fail.2
theorem hp_X3_fail : plainName yX3_fail.cls = true := by decide +kernel
theorem hv_X3_isIn : yX3_isIn.cls = RX3 ∧ yX3_isIn.cls ≠ "java/lang/invoke/MethodHandle" ∧ yX3_isIn.cls ≠ "java/lang/invoke/VarHandle" ∧ (parseMethodDescriptor yX3_isIn.desc).map (fun d => d.parameters.length) = some 3 := by decide +kernel
theorem hs_X3_isIn : yX3_isIn.cls ≠ "java/lang/invoke/MethodHandle" ∧ yX3_isIn.cls ≠ "java/lang/invoke/VarHandle" ∧ (parseMethodDescriptor yX3_isIn.desc).map (fun d => d.parameters.length) = some 3 := hv_X3_isIn.2
theorem hp_X3_isIn : plainName yX3_isIn.cls = true := by decide +kernel
theorem hv_X3_isVoice : yX3_isVoice.cls = RX3 ∧ yX3_isVoice.cls ≠ "java/lang/invoke/MethodHandle" ∧ yX3_isVoice.cls ≠ "java/lang/invoke/VarHandle" ∧ (parseMethodDescriptor yX3_isVoice.desc).map (fun d => d.parameters.length) = some 1 := by decide +kernel
theorem hs_X3_isVoice : yX3_isVoice.cls ≠ "java/lang/invoke/MethodHandle" ∧ yX3_isVoice.cls ≠ "java/lang/invoke/VarHandle" ∧ (parseMethodDescriptor yX3_isVoice.desc).map (fun d => d.parameters.length) = some 1 := hv_X3_isVoice.2
theorem hp_X3_isVoice : plainName yX3_isVoice.cls = true := by decide +kernel
theorem hv_X3_isElement : yX3_isElement.cls = RX3 ∧ yX3_isElement.cls ≠ "java/lang/invoke/MethodHandle" ∧ yX3_isElement.cls ≠ "java/lang/invoke/VarHandle" ∧ (parseMethodDescriptor yX3_isElement.desc).map (fun d => d.parameters.length) = some 2 := by decide +kernel
theorem hs_X3_isElement : yX3_isElement.cls ≠ "java/lang/invoke/MethodHandle" ∧ yX3_isElement.cls ≠ "java/lang/invoke/VarHandle" ∧ (parseMethodDescriptor yX3_isElement.desc).map (fun d => d.parameters.length) = some 2 := hv_X3_isElement.2
theorem hp_X3_isElement : plainName yX3_isElement.cls = true := by decide +kernel
theorem hv_X3_get : yX3_get.cls = RX3 ∧ yX3_get.cls ≠ "java/lang/invoke/MethodHandle" ∧ yX3_get.cls ≠ "java/lang/invoke/VarHandle" ∧ (parseMethodDescriptor yX3_get.desc).map (fun d => d.parameters.length) = some 3 := by decide +kernel
theorem hs_X3_get : yX3_get.cls ≠ "java/lang/invoke/MethodHandle" ∧ yX3_get.cls ≠ "java/lang/invoke/VarHandle" ∧ (parseMethodDescriptor yX3_get.desc).map (fun d => d.parameters.length) = some 3 := hv_X3_get.2
theorem hp_X3_get : plainName yX3_get.cls = true := by decide +kernel
theorem hv_X3_bar : yX3_bar.cls = RX3 ∧ yX3_bar.cls ≠ "java/lang/invoke/MethodHandle" ∧ yX3_bar.cls ≠ "java/lang/invoke/VarHandle" ∧ (parseMethodDescriptor yX3_bar.desc).map (fun d => d.parameters.length) = some 0 := by decide +kernel
theorem hs_X3_bar : yX3_bar.cls ≠ "java/lang/invoke/MethodHandle" ∧ yX3_bar.cls ≠ "java/lang/invoke/VarHandle" ∧ (parseMethodDescriptor yX3_bar.desc).map (fun d => d.parameters.length) = some 0 := hv_X3_bar.2
theorem hp_X3_bar : plainName yX3_bar.cls = true := by decide +kernel
theorem hv_X3_isValue : yX3_isValue.cls = RX3 ∧ yX3_isValue.cls ≠ "java/lang/invoke/MethodHandle" ∧ yX3_isValue.cls ≠ "java/lang/invoke/VarHandle" ∧ (parseMethodDescriptor yX3_isValue.desc).map (fun d => d.parameters.length) = some 2 := by decide +kernel
theorem hs_X3_isValue : yX3_isValue.cls ≠ "java/lang/invoke/MethodHandle" ∧ yX3_isValue.cls ≠ "java/lang/invoke/VarHandle" ∧ (parseMethodDescriptor yX3_isValue.desc).map (fun d => d.parameters.length) = some 2 := hv_X3_isValue.2
theorem hp_X3_isValue : plainName yX3_isValue.cls = true := by decide +kernel
theorem hv_X3_ticksOf : yX3_ticksOf.cls = RX3 ∧ yX3_ticksOf.cls ≠ "java/lang/invoke/MethodHandle" ∧ yX3_ticksOf.cls ≠ "java/lang/invoke/VarHandle" ∧ (parseMethodDescriptor yX3_ticksOf.desc).map (fun d => d.parameters.length) = some 2 := by decide +kernel
theorem hs_X3_ticksOf : yX3_ticksOf.cls ≠ "java/lang/invoke/MethodHandle" ∧ yX3_ticksOf.cls ≠ "java/lang/invoke/VarHandle" ∧ (parseMethodDescriptor yX3_ticksOf.desc).map (fun d => d.parameters.length) = some 2 := hv_X3_ticksOf.2
theorem hp_X3_ticksOf : plainName yX3_ticksOf.cls = true := by decide +kernel
theorem hv_X3_length : yX3_length.cls = RX3 ∧ yX3_length.cls ≠ "java/lang/invoke/MethodHandle" ∧ yX3_length.cls ≠ "java/lang/invoke/VarHandle" ∧ (parseMethodDescriptor yX3_length.desc).map (fun d => d.parameters.length) = some 2 := by decide +kernel
theorem hs_X3_length : yX3_length.cls ≠ "java/lang/invoke/MethodHandle" ∧ yX3_length.cls ≠ "java/lang/invoke/VarHandle" ∧ (parseMethodDescriptor yX3_length.desc).map (fun d => d.parameters.length) = some 2 := hv_X3_length.2
theorem hp_X3_length : plainName yX3_length.cls = true := by decide +kernel
theorem hv_X3_tone : yX3_tone.cls = RX3 ∧ yX3_tone.cls ≠ "java/lang/invoke/MethodHandle" ∧ yX3_tone.cls ≠ "java/lang/invoke/VarHandle" ∧ (parseMethodDescriptor yX3_tone.desc).map (fun d => d.parameters.length) = some 2 := by decide +kernel
theorem hs_X3_tone : yX3_tone.cls ≠ "java/lang/invoke/MethodHandle" ∧ yX3_tone.cls ≠ "java/lang/invoke/VarHandle" ∧ (parseMethodDescriptor yX3_tone.desc).map (fun d => d.parameters.length) = some 2 := hv_X3_tone.2
theorem hp_X3_tone : plainName yX3_tone.cls = true := by decide +kernel
theorem hv_X3_toneOf : yX3_toneOf.cls = RX3 ∧ yX3_toneOf.cls ≠ "java/lang/invoke/MethodHandle" ∧ yX3_toneOf.cls ≠ "java/lang/invoke/VarHandle" ∧ (parseMethodDescriptor yX3_toneOf.desc).map (fun d => d.parameters.length) = some 3 := by decide +kernel
theorem hs_X3_toneOf : yX3_toneOf.cls ≠ "java/lang/invoke/MethodHandle" ∧ yX3_toneOf.cls ≠ "java/lang/invoke/VarHandle" ∧ (parseMethodDescriptor yX3_toneOf.desc).map (fun d => d.parameters.length) = some 3 := hv_X3_toneOf.2
theorem hp_X3_toneOf : plainName yX3_toneOf.cls = true := by decide +kernel
theorem hv_X3_isPitch : yX3_isPitch.cls = RX3 ∧ yX3_isPitch.cls ≠ "java/lang/invoke/MethodHandle" ∧ yX3_isPitch.cls ≠ "java/lang/invoke/VarHandle" ∧ (parseMethodDescriptor yX3_isPitch.desc).map (fun d => d.parameters.length) = some 3 := by decide +kernel
theorem hs_X3_isPitch : yX3_isPitch.cls ≠ "java/lang/invoke/MethodHandle" ∧ yX3_isPitch.cls ≠ "java/lang/invoke/VarHandle" ∧ (parseMethodDescriptor yX3_isPitch.desc).map (fun d => d.parameters.length) = some 3 := hv_X3_isPitch.2
theorem hp_X3_isPitch : plainName yX3_isPitch.cls = true := by decide +kernel
theorem hv_X3_signOf : yX3_signOf.cls = RX3 ∧ yX3_signOf.cls ≠ "java/lang/invoke/MethodHandle" ∧ yX3_signOf.cls ≠ "java/lang/invoke/VarHandle" ∧ (parseMethodDescriptor yX3_signOf.desc).map (fun d => d.parameters.length) = some 1 := by decide +kernel
theorem hs_X3_signOf : yX3_signOf.cls ≠ "java/lang/invoke/MethodHandle" ∧ yX3_signOf.cls ≠ "java/lang/invoke/VarHandle" ∧ (parseMethodDescriptor yX3_signOf.desc).map (fun d => d.parameters.length) = some 1 := hv_X3_signOf.2
theorem hp_X3_signOf : plainName yX3_signOf.cls = true := by decide +kernel
theorem hv_X3_setBars : yX3_setBars.cls = RX3 ∧ yX3_setBars.cls ≠ "java/lang/invoke/MethodHandle" ∧ yX3_setBars.cls ≠ "java/lang/invoke/VarHandle" ∧ (parseMethodDescriptor yX3_setBars.desc).map (fun d => d.parameters.length) = some 2 := by decide +kernel
theorem hs_X3_setBars : yX3_setBars.cls ≠ "java/lang/invoke/MethodHandle" ∧ yX3_setBars.cls ≠ "java/lang/invoke/VarHandle" ∧ (parseMethodDescriptor yX3_setBars.desc).map (fun d => d.parameters.length) = some 2 := hv_X3_setBars.2
theorem hp_X3_setBars : plainName yX3_setBars.cls = true := by decide +kernel
theorem hv_X3_setKey : yX3_setKey.cls = RX3 ∧ yX3_setKey.cls ≠ "java/lang/invoke/MethodHandle" ∧ yX3_setKey.cls ≠ "java/lang/invoke/VarHandle" ∧ (parseMethodDescriptor yX3_setKey.desc).map (fun d => d.parameters.length) = some 1 := by decide +kernel
theorem hs_X3_setKey : yX3_setKey.cls ≠ "java/lang/invoke/MethodHandle" ∧ yX3_setKey.cls ≠ "java/lang/invoke/VarHandle" ∧ (parseMethodDescriptor yX3_setKey.desc).map (fun d => d.parameters.length) = some 1 := hv_X3_setKey.2
theorem hp_X3_setKey : plainName yX3_setKey.cls = true := by decide +kernel
theorem hv_X3_addVoice : yX3_addVoice.cls = RX3 ∧ yX3_addVoice.cls ≠ "java/lang/invoke/MethodHandle" ∧ yX3_addVoice.cls ≠ "java/lang/invoke/VarHandle" ∧ (parseMethodDescriptor yX3_addVoice.desc).map (fun d => d.parameters.length) = some 0 := by decide +kernel
theorem hs_X3_addVoice : yX3_addVoice.cls ≠ "java/lang/invoke/MethodHandle" ∧ yX3_addVoice.cls ≠ "java/lang/invoke/VarHandle" ∧ (parseMethodDescriptor yX3_addVoice.desc).map (fun d => d.parameters.length) = some 0 := hv_X3_addVoice.2
theorem hp_X3_addVoice : plainName yX3_addVoice.cls = true := by decide +kernel
theorem hv_X3_findTimes : yX3_findTimes.cls = RX3 ∧ yX3_findTimes.cls ≠ "java/lang/invoke/MethodHandle" ∧ yX3_findTimes.cls ≠ "java/lang/invoke/VarHandle" ∧ (parseMethodDescriptor yX3_findTimes.desc).map (fun d => d.parameters.length) = some 1 := by decide +kernel
theorem hs_X3_findTimes : yX3_findTimes.cls ≠ "java/lang/invoke/MethodHandle" ∧ yX3_findTimes.cls ≠ "java/lang/invoke/VarHandle" ∧ (parseMethodDescriptor yX3_findTimes.desc).map (fun d => d.parameters.length) = some 1 := hv_X3_findTimes.2
theorem hp_X3_findTimes : plainName yX3_findTimes.cls = true := by decide +kernel
theorem hv_X3_barsBegun : yX3_barsBegun.cls = RX3 ∧ yX3_barsBegun.cls ≠ "java/lang/invoke/MethodHandle" ∧ yX3_barsBegun.cls ≠ "java/lang/invoke/VarHandle" ∧ (parseMethodDescriptor yX3_barsBegun.desc).map (fun d => d.parameters.length) = some 0 := by decide +kernel
theorem hs_X3_barsBegun : yX3_barsBegun.cls ≠ "java/lang/invoke/MethodHandle" ∧ yX3_barsBegun.cls ≠ "java/lang/invoke/VarHandle" ∧ (parseMethodDescriptor yX3_barsBegun.desc).map (fun d => d.parameters.length) = some 0 := hv_X3_barsBegun.2
theorem hp_X3_barsBegun : plainName yX3_barsBegun.cls = true := by decide +kernel
theorem hv_X3_scoreTold : yX3_scoreTold.cls = RX3 ∧ yX3_scoreTold.cls ≠ "java/lang/invoke/MethodHandle" ∧ yX3_scoreTold.cls ≠ "java/lang/invoke/VarHandle" ∧ (parseMethodDescriptor yX3_scoreTold.desc).map (fun d => d.parameters.length) = some 1 := by decide +kernel
theorem hs_X3_scoreTold : yX3_scoreTold.cls ≠ "java/lang/invoke/MethodHandle" ∧ yX3_scoreTold.cls ≠ "java/lang/invoke/VarHandle" ∧ (parseMethodDescriptor yX3_scoreTold.desc).map (fun d => d.parameters.length) = some 1 := hv_X3_scoreTold.2
theorem hp_X3_scoreTold : plainName yX3_scoreTold.cls = true := by decide +kernel
theorem hv_X3_score : yX3_score.cls = RX3 ∧ yX3_score.cls ≠ "java/lang/invoke/MethodHandle" ∧ yX3_score.cls ≠ "java/lang/invoke/VarHandle" ∧ (parseMethodDescriptor yX3_score.desc).map (fun d => d.parameters.length) = some 1 := by decide +kernel
theorem hs_X3_score : yX3_score.cls ≠ "java/lang/invoke/MethodHandle" ∧ yX3_score.cls ≠ "java/lang/invoke/VarHandle" ∧ (parseMethodDescriptor yX3_score.desc).map (fun d => d.parameters.length) = some 1 := hv_X3_score.2
theorem hp_X3_score : plainName yX3_score.cls = true := by decide +kernel
theorem hv_X3_sign : yX3_sign.cls = RX3 ∧ yX3_sign.cls ≠ "java/lang/invoke/MethodHandle" ∧ yX3_sign.cls ≠ "java/lang/invoke/VarHandle" ∧ (parseMethodDescriptor yX3_sign.desc).map (fun d => d.parameters.length) = some 1 := by decide +kernel
theorem hs_X3_sign : yX3_sign.cls ≠ "java/lang/invoke/MethodHandle" ∧ yX3_sign.cls ≠ "java/lang/invoke/VarHandle" ∧ (parseMethodDescriptor yX3_sign.desc).map (fun d => d.parameters.length) = some 1 := hv_X3_sign.2
theorem hp_X3_sign : plainName yX3_sign.cls = true := by decide +kernel
theorem hv_X3_ticks : yX3_ticks.cls = RX3 ∧ yX3_ticks.cls ≠ "java/lang/invoke/MethodHandle" ∧ yX3_ticks.cls ≠ "java/lang/invoke/VarHandle" ∧ (parseMethodDescriptor yX3_ticks.desc).map (fun d => d.parameters.length) = some 2 := by decide +kernel
theorem hs_X3_ticks : yX3_ticks.cls ≠ "java/lang/invoke/MethodHandle" ∧ yX3_ticks.cls ≠ "java/lang/invoke/VarHandle" ∧ (parseMethodDescriptor yX3_ticks.desc).map (fun d => d.parameters.length) = some 2 := hv_X3_ticks.2
theorem hp_X3_ticks : plainName yX3_ticks.cls = true := by decide +kernel
theorem hv_X3_cut : yX3_cut.cls = RX3 ∧ yX3_cut.cls ≠ "java/lang/invoke/MethodHandle" ∧ yX3_cut.cls ≠ "java/lang/invoke/VarHandle" ∧ (parseMethodDescriptor yX3_cut.desc).map (fun d => d.parameters.length) = some 4 := by decide +kernel
theorem hs_X3_cut : yX3_cut.cls ≠ "java/lang/invoke/MethodHandle" ∧ yX3_cut.cls ≠ "java/lang/invoke/VarHandle" ∧ (parseMethodDescriptor yX3_cut.desc).map (fun d => d.parameters.length) = some 4 := hv_X3_cut.2
theorem hp_X3_cut : plainName yX3_cut.cls = true := by decide +kernel
theorem hv_X3_add : yX3_add.cls = RX3 ∧ yX3_add.cls ≠ "java/lang/invoke/MethodHandle" ∧ yX3_add.cls ≠ "java/lang/invoke/VarHandle" ∧ (parseMethodDescriptor yX3_add.desc).map (fun d => d.parameters.length) = some 3 := by decide +kernel
theorem hs_X3_add : yX3_add.cls ≠ "java/lang/invoke/MethodHandle" ∧ yX3_add.cls ≠ "java/lang/invoke/VarHandle" ∧ (parseMethodDescriptor yX3_add.desc).map (fun d => d.parameters.length) = some 3 := hv_X3_add.2
theorem hp_X3_add : plainName yX3_add.cls = true := by decide +kernel
theorem hv_X3_addNote : yX3_addNote.cls = RX3 ∧ yX3_addNote.cls ≠ "java/lang/invoke/MethodHandle" ∧ yX3_addNote.cls ≠ "java/lang/invoke/VarHandle" ∧ (parseMethodDescriptor yX3_addNote.desc).map (fun d => d.parameters.length) = some 7 := by decide +kernel
theorem hs_X3_addNote : yX3_addNote.cls ≠ "java/lang/invoke/MethodHandle" ∧ yX3_addNote.cls ≠ "java/lang/invoke/VarHandle" ∧ (parseMethodDescriptor yX3_addNote.desc).map (fun d => d.parameters.length) = some 7 := hv_X3_addNote.2
theorem hp_X3_addNote : plainName yX3_addNote.cls = true := by decide +kernel
theorem hv_X3_addRest : yX3_addRest.cls = RX3 ∧ yX3_addRest.cls ≠ "java/lang/invoke/MethodHandle" ∧ yX3_addRest.cls ≠ "java/lang/invoke/VarHandle" ∧ (parseMethodDescriptor yX3_addRest.desc).map (fun d => d.parameters.length) = some 3 := by decide +kernel
theorem hs_X3_addRest : yX3_addRest.cls ≠ "java/lang/invoke/MethodHandle" ∧ yX3_addRest.cls ≠ "java/lang/invoke/VarHandle" ∧ (parseMethodDescriptor yX3_addRest.desc).map (fun d => d.parameters.length) = some 3 := hv_X3_addRest.2
theorem hp_X3_addRest : plainName yX3_addRest.cls = true := by decide +kernel
theorem hv_X3_removeLast : yX3_removeLast.cls = RX3 ∧ yX3_removeLast.cls ≠ "java/lang/invoke/MethodHandle" ∧ yX3_removeLast.cls ≠ "java/lang/invoke/VarHandle" ∧ (parseMethodDescriptor yX3_removeLast.desc).map (fun d => d.parameters.length) = some 1 := by decide +kernel
theorem hs_X3_removeLast : yX3_removeLast.cls ≠ "java/lang/invoke/MethodHandle" ∧ yX3_removeLast.cls ≠ "java/lang/invoke/VarHandle" ∧ (parseMethodDescriptor yX3_removeLast.desc).map (fun d => d.parameters.length) = some 1 := hv_X3_removeLast.2
theorem hp_X3_removeLast : plainName yX3_removeLast.cls = true := by decide +kernel
theorem hv_X3_tie : yX3_tie.cls = RX3 ∧ yX3_tie.cls ≠ "java/lang/invoke/MethodHandle" ∧ yX3_tie.cls ≠ "java/lang/invoke/VarHandle" ∧ (parseMethodDescriptor yX3_tie.desc).map (fun d => d.parameters.length) = some 3 := by decide +kernel
theorem hs_X3_tie : yX3_tie.cls ≠ "java/lang/invoke/MethodHandle" ∧ yX3_tie.cls ≠ "java/lang/invoke/VarHandle" ∧ (parseMethodDescriptor yX3_tie.desc).map (fun d => d.parameters.length) = some 3 := hv_X3_tie.2
theorem hp_X3_tie : plainName yX3_tie.cls = true := by decide +kernel
theorem hv_X3_isJoined : yX3_isJoined.cls = RX3 ∧ yX3_isJoined.cls ≠ "java/lang/invoke/MethodHandle" ∧ yX3_isJoined.cls ≠ "java/lang/invoke/VarHandle" ∧ (parseMethodDescriptor yX3_isJoined.desc).map (fun d => d.parameters.length) = some 2 := by decide +kernel
theorem hs_X3_isJoined : yX3_isJoined.cls ≠ "java/lang/invoke/MethodHandle" ∧ yX3_isJoined.cls ≠ "java/lang/invoke/VarHandle" ∧ (parseMethodDescriptor yX3_isJoined.desc).map (fun d => d.parameters.length) = some 2 := hv_X3_isJoined.2
theorem hp_X3_isJoined : plainName yX3_isJoined.cls = true := by decide +kernel
theorem hv_X3_find : yX3_find.cls = RX3 ∧ yX3_find.cls ≠ "java/lang/invoke/MethodHandle" ∧ yX3_find.cls ≠ "java/lang/invoke/VarHandle" ∧ (parseMethodDescriptor yX3_find.desc).map (fun d => d.parameters.length) = some 1 := by decide +kernel
theorem hs_X3_find : yX3_find.cls ≠ "java/lang/invoke/MethodHandle" ∧ yX3_find.cls ≠ "java/lang/invoke/VarHandle" ∧ (parseMethodDescriptor yX3_find.desc).map (fun d => d.parameters.length) = some 1 := hv_X3_find.2
theorem hp_X3_find : plainName yX3_find.cls = true := by decide +kernel
theorem hv_X3_canBeam : yX3_canBeam.cls = RX3 ∧ yX3_canBeam.cls ≠ "java/lang/invoke/MethodHandle" ∧ yX3_canBeam.cls ≠ "java/lang/invoke/VarHandle" ∧ (parseMethodDescriptor yX3_canBeam.desc).map (fun d => d.parameters.length) = some 2 := by decide +kernel
theorem hs_X3_canBeam : yX3_canBeam.cls ≠ "java/lang/invoke/MethodHandle" ∧ yX3_canBeam.cls ≠ "java/lang/invoke/VarHandle" ∧ (parseMethodDescriptor yX3_canBeam.desc).map (fun d => d.parameters.length) = some 2 := hv_X3_canBeam.2
theorem hp_X3_canBeam : plainName yX3_canBeam.cls = true := by decide +kernel
theorem hv_X3_beat : yX3_beat.cls = RX3 ∧ yX3_beat.cls ≠ "java/lang/invoke/MethodHandle" ∧ yX3_beat.cls ≠ "java/lang/invoke/VarHandle" ∧ (parseMethodDescriptor yX3_beat.desc).map (fun d => d.parameters.length) = some 2 := by decide +kernel
theorem hs_X3_beat : yX3_beat.cls ≠ "java/lang/invoke/MethodHandle" ∧ yX3_beat.cls ≠ "java/lang/invoke/VarHandle" ∧ (parseMethodDescriptor yX3_beat.desc).map (fun d => d.parameters.length) = some 2 := hv_X3_beat.2
theorem hp_X3_beat : plainName yX3_beat.cls = true := by decide +kernel
theorem hv_X3_elementTold : yX3_elementTold.cls = RX3 ∧ yX3_elementTold.cls ≠ "java/lang/invoke/MethodHandle" ∧ yX3_elementTold.cls ≠ "java/lang/invoke/VarHandle" ∧ (parseMethodDescriptor yX3_elementTold.desc).map (fun d => d.parameters.length) = some 3 := by decide +kernel
theorem hs_X3_elementTold : yX3_elementTold.cls ≠ "java/lang/invoke/MethodHandle" ∧ yX3_elementTold.cls ≠ "java/lang/invoke/VarHandle" ∧ (parseMethodDescriptor yX3_elementTold.desc).map (fun d => d.parameters.length) = some 3 := hv_X3_elementTold.2
theorem hp_X3_elementTold : plainName yX3_elementTold.cls = true := by decide +kernel
theorem hv_X3_element : yX3_element.cls = RX3 ∧ yX3_element.cls ≠ "java/lang/invoke/MethodHandle" ∧ yX3_element.cls ≠ "java/lang/invoke/VarHandle" ∧ (parseMethodDescriptor yX3_element.desc).map (fun d => d.parameters.length) = some 3 := by decide +kernel
theorem hs_X3_element : yX3_element.cls ≠ "java/lang/invoke/MethodHandle" ∧ yX3_element.cls ≠ "java/lang/invoke/VarHandle" ∧ (parseMethodDescriptor yX3_element.desc).map (fun d => d.parameters.length) = some 3 := hv_X3_element.2
theorem hp_X3_element : plainName yX3_element.cls = true := by decide +kernel
theorem hv_X3_pitch : yX3_pitch.cls = RX3 ∧ yX3_pitch.cls ≠ "java/lang/invoke/MethodHandle" ∧ yX3_pitch.cls ≠ "java/lang/invoke/VarHandle" ∧ (parseMethodDescriptor yX3_pitch.desc).map (fun d => d.parameters.length) = some 3 := by decide +kernel
theorem hs_X3_pitch : yX3_pitch.cls ≠ "java/lang/invoke/MethodHandle" ∧ yX3_pitch.cls ≠ "java/lang/invoke/VarHandle" ∧ (parseMethodDescriptor yX3_pitch.desc).map (fun d => d.parameters.length) = some 3 := hv_X3_pitch.2
theorem hp_X3_pitch : plainName yX3_pitch.cls = true := by decide +kernel
theorem hv_X3_voiceTold : yX3_voiceTold.cls = RX3 ∧ yX3_voiceTold.cls ≠ "java/lang/invoke/MethodHandle" ∧ yX3_voiceTold.cls ≠ "java/lang/invoke/VarHandle" ∧ (parseMethodDescriptor yX3_voiceTold.desc).map (fun d => d.parameters.length) = some 2 := by decide +kernel
theorem hs_X3_voiceTold : yX3_voiceTold.cls ≠ "java/lang/invoke/MethodHandle" ∧ yX3_voiceTold.cls ≠ "java/lang/invoke/VarHandle" ∧ (parseMethodDescriptor yX3_voiceTold.desc).map (fun d => d.parameters.length) = some 2 := hv_X3_voiceTold.2
theorem hp_X3_voiceTold : plainName yX3_voiceTold.cls = true := by decide +kernel
theorem hv_X3_voice : yX3_voice.cls = RX3 ∧ yX3_voice.cls ≠ "java/lang/invoke/MethodHandle" ∧ yX3_voice.cls ≠ "java/lang/invoke/VarHandle" ∧ (parseMethodDescriptor yX3_voice.desc).map (fun d => d.parameters.length) = some 2 := by decide +kernel
theorem hs_X3_voice : yX3_voice.cls ≠ "java/lang/invoke/MethodHandle" ∧ yX3_voice.cls ≠ "java/lang/invoke/VarHandle" ∧ (parseMethodDescriptor yX3_voice.desc).map (fun d => d.parameters.length) = some 2 := hv_X3_voice.2
theorem hp_X3_voice : plainName yX3_voice.cls = true := by decide +kernel
theorem hv_X3_place : yX3_place.cls = RX3 ∧ yX3_place.cls ≠ "java/lang/invoke/MethodHandle" ∧ yX3_place.cls ≠ "java/lang/invoke/VarHandle" ∧ (parseMethodDescriptor yX3_place.desc).map (fun d => d.parameters.length) = some 3 := by decide +kernel
theorem hs_X3_place : yX3_place.cls ≠ "java/lang/invoke/MethodHandle" ∧ yX3_place.cls ≠ "java/lang/invoke/VarHandle" ∧ (parseMethodDescriptor yX3_place.desc).map (fun d => d.parameters.length) = some 3 := hv_X3_place.2
theorem hp_X3_place : plainName yX3_place.cls = true := by decide +kernel
theorem hv_X3_transpose : yX3_transpose.cls = RX3 ∧ yX3_transpose.cls ≠ "java/lang/invoke/MethodHandle" ∧ yX3_transpose.cls ≠ "java/lang/invoke/VarHandle" ∧ (parseMethodDescriptor yX3_transpose.desc).map (fun d => d.parameters.length) = some 2 := by decide +kernel
theorem hs_X3_transpose : yX3_transpose.cls ≠ "java/lang/invoke/MethodHandle" ∧ yX3_transpose.cls ≠ "java/lang/invoke/VarHandle" ∧ (parseMethodDescriptor yX3_transpose.desc).map (fun d => d.parameters.length) = some 2 := hv_X3_transpose.2
theorem hp_X3_transpose : plainName yX3_transpose.cls = true := by decide +kernel
theorem hv_X3_begins : yX3_begins.cls = RX3 ∧ yX3_begins.cls ≠ "java/lang/invoke/MethodHandle" ∧ yX3_begins.cls ≠ "java/lang/invoke/VarHandle" ∧ (parseMethodDescriptor yX3_begins.desc).map (fun d => d.parameters.length) = some 2 := by decide +kernel
theorem hs_X3_begins : yX3_begins.cls ≠ "java/lang/invoke/MethodHandle" ∧ yX3_begins.cls ≠ "java/lang/invoke/VarHandle" ∧ (parseMethodDescriptor yX3_begins.desc).map (fun d => d.parameters.length) = some 2 := hv_X3_begins.2
theorem hp_X3_begins : plainName yX3_begins.cls = true := by decide +kernel
theorem hv_X3_parallels : yX3_parallels.cls = RX3 ∧ yX3_parallels.cls ≠ "java/lang/invoke/MethodHandle" ∧ yX3_parallels.cls ≠ "java/lang/invoke/VarHandle" ∧ (parseMethodDescriptor yX3_parallels.desc).map (fun d => d.parameters.length) = some 2 := by decide +kernel
theorem hs_X3_parallels : yX3_parallels.cls ≠ "java/lang/invoke/MethodHandle" ∧ yX3_parallels.cls ≠ "java/lang/invoke/VarHandle" ∧ (parseMethodDescriptor yX3_parallels.desc).map (fun d => d.parameters.length) = some 2 := hv_X3_parallels.2
theorem hp_X3_parallels : plainName yX3_parallels.cls = true := by decide +kernel
theorem hv_X3_faultsOf : yX3_faultsOf.cls = RX3 ∧ yX3_faultsOf.cls ≠ "java/lang/invoke/MethodHandle" ∧ yX3_faultsOf.cls ≠ "java/lang/invoke/VarHandle" ∧ (parseMethodDescriptor yX3_faultsOf.desc).map (fun d => d.parameters.length) = some 0 := by decide +kernel
theorem hs_X3_faultsOf : yX3_faultsOf.cls ≠ "java/lang/invoke/MethodHandle" ∧ yX3_faultsOf.cls ≠ "java/lang/invoke/VarHandle" ∧ (parseMethodDescriptor yX3_faultsOf.desc).map (fun d => d.parameters.length) = some 0 := hv_X3_faultsOf.2
theorem hp_X3_faultsOf : plainName yX3_faultsOf.cls = true := by decide +kernel
theorem hv_X3_faults : yX3_faults.cls = RX3 ∧ yX3_faults.cls ≠ "java/lang/invoke/MethodHandle" ∧ yX3_faults.cls ≠ "java/lang/invoke/VarHandle" ∧ (parseMethodDescriptor yX3_faults.desc).map (fun d => d.parameters.length) = some 0 := by decide +kernel
theorem hs_X3_faults : yX3_faults.cls ≠ "java/lang/invoke/MethodHandle" ∧ yX3_faults.cls ≠ "java/lang/invoke/VarHandle" ∧ (parseMethodDescriptor yX3_faults.desc).map (fun d => d.parameters.length) = some 0 := hv_X3_faults.2
theorem hp_X3_faults : plainName yX3_faults.cls = true := by decide +kernel
theorem hv_X3_sounding : yX3_sounding.cls = RX3 ∧ yX3_sounding.cls ≠ "java/lang/invoke/MethodHandle" ∧ yX3_sounding.cls ≠ "java/lang/invoke/VarHandle" ∧ (parseMethodDescriptor yX3_sounding.desc).map (fun d => d.parameters.length) = some 2 := by decide +kernel
theorem hs_X3_sounding : yX3_sounding.cls ≠ "java/lang/invoke/MethodHandle" ∧ yX3_sounding.cls ≠ "java/lang/invoke/VarHandle" ∧ (parseMethodDescriptor yX3_sounding.desc).map (fun d => d.parameters.length) = some 2 := hv_X3_sounding.2
theorem hp_X3_sounding : plainName yX3_sounding.cls = true := by decide +kernel
theorem hv_X3_interval : yX3_interval.cls = RX3 ∧ yX3_interval.cls ≠ "java/lang/invoke/MethodHandle" ∧ yX3_interval.cls ≠ "java/lang/invoke/VarHandle" ∧ (parseMethodDescriptor yX3_interval.desc).map (fun d => d.parameters.length) = some 3 := by decide +kernel
theorem hs_X3_interval : yX3_interval.cls ≠ "java/lang/invoke/MethodHandle" ∧ yX3_interval.cls ≠ "java/lang/invoke/VarHandle" ∧ (parseMethodDescriptor yX3_interval.desc).map (fun d => d.parameters.length) = some 3 := hv_X3_interval.2
theorem hp_X3_interval : plainName yX3_interval.cls = true := by decide +kernel
theorem hv_X3_put : yX3_put.cls = RX3 ∧ yX3_put.cls ≠ "java/lang/invoke/MethodHandle" ∧ yX3_put.cls ≠ "java/lang/invoke/VarHandle" ∧ (parseMethodDescriptor yX3_put.desc).map (fun d => d.parameters.length) = some 4 := by decide +kernel
theorem hs_X3_put : yX3_put.cls ≠ "java/lang/invoke/MethodHandle" ∧ yX3_put.cls ≠ "java/lang/invoke/VarHandle" ∧ (parseMethodDescriptor yX3_put.desc).map (fun d => d.parameters.length) = some 4 := hv_X3_put.2
theorem hp_X3_put : plainName yX3_put.cls = true := by decide +kernel
theorem hv_X3_isLater : yX3_isLater.cls = RX3 ∧ yX3_isLater.cls ≠ "java/lang/invoke/MethodHandle" ∧ yX3_isLater.cls ≠ "java/lang/invoke/VarHandle" ∧ (parseMethodDescriptor yX3_isLater.desc).map (fun d => d.parameters.length) = some 4 := by decide +kernel
theorem hs_X3_isLater : yX3_isLater.cls ≠ "java/lang/invoke/MethodHandle" ∧ yX3_isLater.cls ≠ "java/lang/invoke/VarHandle" ∧ (parseMethodDescriptor yX3_isLater.desc).map (fun d => d.parameters.length) = some 4 := hv_X3_isLater.2
theorem hp_X3_isLater : plainName yX3_isLater.cls = true := by decide +kernel
theorem hv_X3_findEvents : yX3_findEvents.cls = RX3 ∧ yX3_findEvents.cls ≠ "java/lang/invoke/MethodHandle" ∧ yX3_findEvents.cls ≠ "java/lang/invoke/VarHandle" ∧ (parseMethodDescriptor yX3_findEvents.desc).map (fun d => d.parameters.length) = some 0 := by decide +kernel
theorem hs_X3_findEvents : yX3_findEvents.cls ≠ "java/lang/invoke/MethodHandle" ∧ yX3_findEvents.cls ≠ "java/lang/invoke/VarHandle" ∧ (parseMethodDescriptor yX3_findEvents.desc).map (fun d => d.parameters.length) = some 0 := hv_X3_findEvents.2
theorem hp_X3_findEvents : plainName yX3_findEvents.cls = true := by decide +kernel
theorem hv_X3_event : yX3_event.cls = RX3 ∧ yX3_event.cls ≠ "java/lang/invoke/MethodHandle" ∧ yX3_event.cls ≠ "java/lang/invoke/VarHandle" ∧ (parseMethodDescriptor yX3_event.desc).map (fun d => d.parameters.length) = some 2 := by decide +kernel
theorem hs_X3_event : yX3_event.cls ≠ "java/lang/invoke/MethodHandle" ∧ yX3_event.cls ≠ "java/lang/invoke/VarHandle" ∧ (parseMethodDescriptor yX3_event.desc).map (fun d => d.parameters.length) = some 2 := hv_X3_event.2
theorem hp_X3_event : plainName yX3_event.cls = true := by decide +kernel
theorem hv_X3_events : yX3_events.cls = RX3 ∧ yX3_events.cls ≠ "java/lang/invoke/MethodHandle" ∧ yX3_events.cls ≠ "java/lang/invoke/VarHandle" ∧ (parseMethodDescriptor yX3_events.desc).map (fun d => d.parameters.length) = some 0 := by decide +kernel
theorem hs_X3_events : yX3_events.cls ≠ "java/lang/invoke/MethodHandle" ∧ yX3_events.cls ≠ "java/lang/invoke/VarHandle" ∧ (parseMethodDescriptor yX3_events.desc).map (fun d => d.parameters.length) = some 0 := hv_X3_events.2
theorem hp_X3_events : plainName yX3_events.cls = true := by decide +kernel
theorem hv_X3_time : yX3_time.cls = RX3 ∧ yX3_time.cls ≠ "java/lang/invoke/MethodHandle" ∧ yX3_time.cls ≠ "java/lang/invoke/VarHandle" ∧ (parseMethodDescriptor yX3_time.desc).map (fun d => d.parameters.length) = some 2 := by decide +kernel
theorem hs_X3_time : yX3_time.cls ≠ "java/lang/invoke/MethodHandle" ∧ yX3_time.cls ≠ "java/lang/invoke/VarHandle" ∧ (parseMethodDescriptor yX3_time.desc).map (fun d => d.parameters.length) = some 2 := hv_X3_time.2
theorem hp_X3_time : plainName yX3_time.cls = true := by decide +kernel
theorem hv_X3_meanTone : yX3_meanTone.cls = RX3 ∧ yX3_meanTone.cls ≠ "java/lang/invoke/MethodHandle" ∧ yX3_meanTone.cls ≠ "java/lang/invoke/VarHandle" ∧ (parseMethodDescriptor yX3_meanTone.desc).map (fun d => d.parameters.length) = some 0 := by decide +kernel
theorem hs_X3_meanTone : yX3_meanTone.cls ≠ "java/lang/invoke/MethodHandle" ∧ yX3_meanTone.cls ≠ "java/lang/invoke/VarHandle" ∧ (parseMethodDescriptor yX3_meanTone.desc).map (fun d => d.parameters.length) = some 0 := hv_X3_meanTone.2
theorem hp_X3_meanTone : plainName yX3_meanTone.cls = true := by decide +kernel
theorem hv_X3_digest : yX3_digest.cls = RX3 ∧ yX3_digest.cls ≠ "java/lang/invoke/MethodHandle" ∧ yX3_digest.cls ≠ "java/lang/invoke/VarHandle" ∧ (parseMethodDescriptor yX3_digest.desc).map (fun d => d.parameters.length) = some 0 := by decide +kernel
theorem hs_X3_digest : yX3_digest.cls ≠ "java/lang/invoke/MethodHandle" ∧ yX3_digest.cls ≠ "java/lang/invoke/VarHandle" ∧ (parseMethodDescriptor yX3_digest.desc).map (fun d => d.parameters.length) = some 0 := hv_X3_digest.2
theorem hp_X3_digest : plainName yX3_digest.cls = true := by decide +kernel
theorem hv_J9_floorDiv_7cf53 : yJ9_floorDiv_7cf53.cls = RJ9 ∧ yJ9_floorDiv_7cf53.cls ≠ "java/lang/invoke/MethodHandle" ∧ yJ9_floorDiv_7cf53.cls ≠ "java/lang/invoke/VarHandle" ∧ (parseMethodDescriptor yJ9_floorDiv_7cf53.desc).map (fun d => d.parameters.length) = some 2 := by decide +kernel
theorem hs_J9_floorDiv_7cf53 : yJ9_floorDiv_7cf53.cls ≠ "java/lang/invoke/MethodHandle" ∧ yJ9_floorDiv_7cf53.cls ≠ "java/lang/invoke/VarHandle" ∧ (parseMethodDescriptor yJ9_floorDiv_7cf53.desc).map (fun d => d.parameters.length) = some 2 := hv_J9_floorDiv_7cf53.2
theorem hv_J9_floorMod_7cf53 : yJ9_floorMod_7cf53.cls = RJ9 ∧ yJ9_floorMod_7cf53.cls ≠ "java/lang/invoke/MethodHandle" ∧ yJ9_floorMod_7cf53.cls ≠ "java/lang/invoke/VarHandle" ∧ (parseMethodDescriptor yJ9_floorMod_7cf53.desc).map (fun d => d.parameters.length) = some 2 := by decide +kernel
theorem hs_J9_floorMod_7cf53 : yJ9_floorMod_7cf53.cls ≠ "java/lang/invoke/MethodHandle" ∧ yJ9_floorMod_7cf53.cls ≠ "java/lang/invoke/VarHandle" ∧ (parseMethodDescriptor yJ9_floorMod_7cf53.desc).map (fun d => d.parameters.length) = some 2 := hv_J9_floorMod_7cf53.2
theorem hv_J9_max_7cf53 : yJ9_max_7cf53.cls = RJ9 ∧ yJ9_max_7cf53.cls ≠ "java/lang/invoke/MethodHandle" ∧ yJ9_max_7cf53.cls ≠ "java/lang/invoke/VarHandle" ∧ (parseMethodDescriptor yJ9_max_7cf53.desc).map (fun d => d.parameters.length) = some 2 := by decide +kernel
theorem hs_J9_max_7cf53 : yJ9_max_7cf53.cls ≠ "java/lang/invoke/MethodHandle" ∧ yJ9_max_7cf53.cls ≠ "java/lang/invoke/VarHandle" ∧ (parseMethodDescriptor yJ9_max_7cf53.desc).map (fun d => d.parameters.length) = some 2 := hv_J9_max_7cf53.2
theorem hv_J9_min_7cf53 : yJ9_min_7cf53.cls = RJ9 ∧ yJ9_min_7cf53.cls ≠ "java/lang/invoke/MethodHandle" ∧ yJ9_min_7cf53.cls ≠ "java/lang/invoke/VarHandle" ∧ (parseMethodDescriptor yJ9_min_7cf53.desc).map (fun d => d.parameters.length) = some 2 := by decide +kernel
theorem hs_J9_min_7cf53 : yJ9_min_7cf53.cls ≠ "java/lang/invoke/MethodHandle" ∧ yJ9_min_7cf53.cls ≠ "java/lang/invoke/VarHandle" ∧ (parseMethodDescriptor yJ9_min_7cf53.desc).map (fun d => d.parameters.length) = some 2 := hv_J9_min_7cf53.2
theorem hv_L_setBars : yL_setBars.cls = RL ∧ yL_setBars.cls ≠ "java/lang/invoke/MethodHandle" ∧ yL_setBars.cls ≠ "java/lang/invoke/VarHandle" ∧ (parseMethodDescriptor yL_setBars.desc).map (fun d => d.parameters.length) = some 4 := by decide +kernel
theorem hs_L_setBars : yL_setBars.cls ≠ "java/lang/invoke/MethodHandle" ∧ yL_setBars.cls ≠ "java/lang/invoke/VarHandle" ∧ (parseMethodDescriptor yL_setBars.desc).map (fun d => d.parameters.length) = some 4 := hv_L_setBars.2
theorem hp_L_setBars : plainName yL_setBars.cls = true := by decide +kernel
theorem hv_L_setKey : yL_setKey.cls = RL ∧ yL_setKey.cls ≠ "java/lang/invoke/MethodHandle" ∧ yL_setKey.cls ≠ "java/lang/invoke/VarHandle" ∧ (parseMethodDescriptor yL_setKey.desc).map (fun d => d.parameters.length) = some 3 := by decide +kernel
theorem hs_L_setKey : yL_setKey.cls ≠ "java/lang/invoke/MethodHandle" ∧ yL_setKey.cls ≠ "java/lang/invoke/VarHandle" ∧ (parseMethodDescriptor yL_setKey.desc).map (fun d => d.parameters.length) = some 3 := hv_L_setKey.2
theorem hp_L_setKey : plainName yL_setKey.cls = true := by decide +kernel
theorem hv_L_addVoice : yL_addVoice.cls = RL ∧ yL_addVoice.cls ≠ "java/lang/invoke/MethodHandle" ∧ yL_addVoice.cls ≠ "java/lang/invoke/VarHandle" ∧ (parseMethodDescriptor yL_addVoice.desc).map (fun d => d.parameters.length) = some 2 := by decide +kernel
theorem hs_L_addVoice : yL_addVoice.cls ≠ "java/lang/invoke/MethodHandle" ∧ yL_addVoice.cls ≠ "java/lang/invoke/VarHandle" ∧ (parseMethodDescriptor yL_addVoice.desc).map (fun d => d.parameters.length) = some 2 := hv_L_addVoice.2
theorem hp_L_addVoice : plainName yL_addVoice.cls = true := by decide +kernel
theorem hv_L_score : yL_score.cls = RL ∧ yL_score.cls ≠ "java/lang/invoke/MethodHandle" ∧ yL_score.cls ≠ "java/lang/invoke/VarHandle" ∧ (parseMethodDescriptor yL_score.desc).map (fun d => d.parameters.length) = some 3 := by decide +kernel
theorem hs_L_score : yL_score.cls ≠ "java/lang/invoke/MethodHandle" ∧ yL_score.cls ≠ "java/lang/invoke/VarHandle" ∧ (parseMethodDescriptor yL_score.desc).map (fun d => d.parameters.length) = some 3 := hv_L_score.2
theorem hp_L_score : plainName yL_score.cls = true := by decide +kernel
theorem hv_L_sign : yL_sign.cls = RL ∧ yL_sign.cls ≠ "java/lang/invoke/MethodHandle" ∧ yL_sign.cls ≠ "java/lang/invoke/VarHandle" ∧ (parseMethodDescriptor yL_sign.desc).map (fun d => d.parameters.length) = some 3 := by decide +kernel
theorem hs_L_sign : yL_sign.cls ≠ "java/lang/invoke/MethodHandle" ∧ yL_sign.cls ≠ "java/lang/invoke/VarHandle" ∧ (parseMethodDescriptor yL_sign.desc).map (fun d => d.parameters.length) = some 3 := hv_L_sign.2
theorem hp_L_sign : plainName yL_sign.cls = true := by decide +kernel
theorem hv_L_ticks : yL_ticks.cls = RL ∧ yL_ticks.cls ≠ "java/lang/invoke/MethodHandle" ∧ yL_ticks.cls ≠ "java/lang/invoke/VarHandle" ∧ (parseMethodDescriptor yL_ticks.desc).map (fun d => d.parameters.length) = some 4 := by decide +kernel
theorem hs_L_ticks : yL_ticks.cls ≠ "java/lang/invoke/MethodHandle" ∧ yL_ticks.cls ≠ "java/lang/invoke/VarHandle" ∧ (parseMethodDescriptor yL_ticks.desc).map (fun d => d.parameters.length) = some 4 := hv_L_ticks.2
theorem hp_L_ticks : plainName yL_ticks.cls = true := by decide +kernel
theorem hv_L_addNote : yL_addNote.cls = RL ∧ yL_addNote.cls ≠ "java/lang/invoke/MethodHandle" ∧ yL_addNote.cls ≠ "java/lang/invoke/VarHandle" ∧ (parseMethodDescriptor yL_addNote.desc).map (fun d => d.parameters.length) = some 9 := by decide +kernel
theorem hs_L_addNote : yL_addNote.cls ≠ "java/lang/invoke/MethodHandle" ∧ yL_addNote.cls ≠ "java/lang/invoke/VarHandle" ∧ (parseMethodDescriptor yL_addNote.desc).map (fun d => d.parameters.length) = some 9 := hv_L_addNote.2
theorem hp_L_addNote : plainName yL_addNote.cls = true := by decide +kernel
theorem hv_L_addRest : yL_addRest.cls = RL ∧ yL_addRest.cls ≠ "java/lang/invoke/MethodHandle" ∧ yL_addRest.cls ≠ "java/lang/invoke/VarHandle" ∧ (parseMethodDescriptor yL_addRest.desc).map (fun d => d.parameters.length) = some 5 := by decide +kernel
theorem hs_L_addRest : yL_addRest.cls ≠ "java/lang/invoke/MethodHandle" ∧ yL_addRest.cls ≠ "java/lang/invoke/VarHandle" ∧ (parseMethodDescriptor yL_addRest.desc).map (fun d => d.parameters.length) = some 5 := hv_L_addRest.2
theorem hp_L_addRest : plainName yL_addRest.cls = true := by decide +kernel
theorem hv_L_removeLast : yL_removeLast.cls = RL ∧ yL_removeLast.cls ≠ "java/lang/invoke/MethodHandle" ∧ yL_removeLast.cls ≠ "java/lang/invoke/VarHandle" ∧ (parseMethodDescriptor yL_removeLast.desc).map (fun d => d.parameters.length) = some 3 := by decide +kernel
theorem hs_L_removeLast : yL_removeLast.cls ≠ "java/lang/invoke/MethodHandle" ∧ yL_removeLast.cls ≠ "java/lang/invoke/VarHandle" ∧ (parseMethodDescriptor yL_removeLast.desc).map (fun d => d.parameters.length) = some 3 := hv_L_removeLast.2
theorem hp_L_removeLast : plainName yL_removeLast.cls = true := by decide +kernel
theorem hv_L_tie : yL_tie.cls = RL ∧ yL_tie.cls ≠ "java/lang/invoke/MethodHandle" ∧ yL_tie.cls ≠ "java/lang/invoke/VarHandle" ∧ (parseMethodDescriptor yL_tie.desc).map (fun d => d.parameters.length) = some 5 := by decide +kernel
theorem hs_L_tie : yL_tie.cls ≠ "java/lang/invoke/MethodHandle" ∧ yL_tie.cls ≠ "java/lang/invoke/VarHandle" ∧ (parseMethodDescriptor yL_tie.desc).map (fun d => d.parameters.length) = some 5 := hv_L_tie.2
theorem hp_L_tie : plainName yL_tie.cls = true := by decide +kernel
theorem hv_L_element : yL_element.cls = RL ∧ yL_element.cls ≠ "java/lang/invoke/MethodHandle" ∧ yL_element.cls ≠ "java/lang/invoke/VarHandle" ∧ (parseMethodDescriptor yL_element.desc).map (fun d => d.parameters.length) = some 5 := by decide +kernel
theorem hs_L_element : yL_element.cls ≠ "java/lang/invoke/MethodHandle" ∧ yL_element.cls ≠ "java/lang/invoke/VarHandle" ∧ (parseMethodDescriptor yL_element.desc).map (fun d => d.parameters.length) = some 5 := hv_L_element.2
theorem hp_L_element : plainName yL_element.cls = true := by decide +kernel
theorem hv_L_pitch : yL_pitch.cls = RL ∧ yL_pitch.cls ≠ "java/lang/invoke/MethodHandle" ∧ yL_pitch.cls ≠ "java/lang/invoke/VarHandle" ∧ (parseMethodDescriptor yL_pitch.desc).map (fun d => d.parameters.length) = some 5 := by decide +kernel
theorem hs_L_pitch : yL_pitch.cls ≠ "java/lang/invoke/MethodHandle" ∧ yL_pitch.cls ≠ "java/lang/invoke/VarHandle" ∧ (parseMethodDescriptor yL_pitch.desc).map (fun d => d.parameters.length) = some 5 := hv_L_pitch.2
theorem hp_L_pitch : plainName yL_pitch.cls = true := by decide +kernel
theorem hv_L_voice : yL_voice.cls = RL ∧ yL_voice.cls ≠ "java/lang/invoke/MethodHandle" ∧ yL_voice.cls ≠ "java/lang/invoke/VarHandle" ∧ (parseMethodDescriptor yL_voice.desc).map (fun d => d.parameters.length) = some 4 := by decide +kernel
theorem hs_L_voice : yL_voice.cls ≠ "java/lang/invoke/MethodHandle" ∧ yL_voice.cls ≠ "java/lang/invoke/VarHandle" ∧ (parseMethodDescriptor yL_voice.desc).map (fun d => d.parameters.length) = some 4 := hv_L_voice.2
theorem hp_L_voice : plainName yL_voice.cls = true := by decide +kernel
theorem hv_L_transpose : yL_transpose.cls = RL ∧ yL_transpose.cls ≠ "java/lang/invoke/MethodHandle" ∧ yL_transpose.cls ≠ "java/lang/invoke/VarHandle" ∧ (parseMethodDescriptor yL_transpose.desc).map (fun d => d.parameters.length) = some 4 := by decide +kernel
theorem hs_L_transpose : yL_transpose.cls ≠ "java/lang/invoke/MethodHandle" ∧ yL_transpose.cls ≠ "java/lang/invoke/VarHandle" ∧ (parseMethodDescriptor yL_transpose.desc).map (fun d => d.parameters.length) = some 4 := hv_L_transpose.2
theorem hp_L_transpose : plainName yL_transpose.cls = true := by decide +kernel
theorem hv_L_interval : yL_interval.cls = RL ∧ yL_interval.cls ≠ "java/lang/invoke/MethodHandle" ∧ yL_interval.cls ≠ "java/lang/invoke/VarHandle" ∧ (parseMethodDescriptor yL_interval.desc).map (fun d => d.parameters.length) = some 5 := by decide +kernel
theorem hs_L_interval : yL_interval.cls ≠ "java/lang/invoke/MethodHandle" ∧ yL_interval.cls ≠ "java/lang/invoke/VarHandle" ∧ (parseMethodDescriptor yL_interval.desc).map (fun d => d.parameters.length) = some 5 := hv_L_interval.2
theorem hp_L_interval : plainName yL_interval.cls = true := by decide +kernel
theorem hv_L_event : yL_event.cls = RL ∧ yL_event.cls ≠ "java/lang/invoke/MethodHandle" ∧ yL_event.cls ≠ "java/lang/invoke/VarHandle" ∧ (parseMethodDescriptor yL_event.desc).map (fun d => d.parameters.length) = some 4 := by decide +kernel
theorem hs_L_event : yL_event.cls ≠ "java/lang/invoke/MethodHandle" ∧ yL_event.cls ≠ "java/lang/invoke/VarHandle" ∧ (parseMethodDescriptor yL_event.desc).map (fun d => d.parameters.length) = some 4 := hv_L_event.2
theorem hp_L_event : plainName yL_event.cls = true := by decide +kernel
theorem hv_L_time : yL_time.cls = RL ∧ yL_time.cls ≠ "java/lang/invoke/MethodHandle" ∧ yL_time.cls ≠ "java/lang/invoke/VarHandle" ∧ (parseMethodDescriptor yL_time.desc).map (fun d => d.parameters.length) = some 4 := by decide +kernel
theorem hs_L_time : yL_time.cls ≠ "java/lang/invoke/MethodHandle" ∧ yL_time.cls ≠ "java/lang/invoke/VarHandle" ∧ (parseMethodDescriptor yL_time.desc).map (fun d => d.parameters.length) = some 4 := hv_L_time.2
theorem hp_L_time : plainName yL_time.cls = true := by decide +kernel
