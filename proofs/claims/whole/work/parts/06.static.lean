/-! methods that read no cell -/
theorem pd_CS_route : y_CS_route.cls = R_CS ∧ y_CS_route.cls ≠ "java/lang/invoke/MethodHandle" ∧ y_CS_route.cls ≠ "java/lang/invoke/VarHandle" ∧ (parseMethodDescriptor y_CS_route.desc).map (fun d => d.parameters.length) = some 3 := by decide +kernel
theorem pd_CS_card : y_CS_card.cls = R_CS ∧ y_CS_card.cls ≠ "java/lang/invoke/MethodHandle" ∧ y_CS_card.cls ≠ "java/lang/invoke/VarHandle" ∧ (parseMethodDescriptor y_CS_card.desc).map (fun d => d.parameters.length) = some 3 := by decide +kernel
theorem pd_CS_authorise : y_CS_authorise.cls = R_CS ∧ y_CS_authorise.cls ≠ "java/lang/invoke/MethodHandle" ∧ y_CS_authorise.cls ≠ "java/lang/invoke/VarHandle" ∧ (parseMethodDescriptor y_CS_authorise.desc).map (fun d => d.parameters.length) = some 5 := by decide +kernel
theorem pd_CS_reverse : y_CS_reverse.cls = R_CS ∧ y_CS_reverse.cls ≠ "java/lang/invoke/MethodHandle" ∧ y_CS_reverse.cls ≠ "java/lang/invoke/VarHandle" ∧ (parseMethodDescriptor y_CS_reverse.desc).map (fun d => d.parameters.length) = some 3 := by decide +kernel
theorem pd_CS_present : y_CS_present.cls = R_CS ∧ y_CS_present.cls ≠ "java/lang/invoke/MethodHandle" ∧ y_CS_present.cls ≠ "java/lang/invoke/VarHandle" ∧ (parseMethodDescriptor y_CS_present.desc).map (fun d => d.parameters.length) = some 3 := by decide +kernel
theorem pd_CS_chargeback : y_CS_chargeback.cls = R_CS ∧ y_CS_chargeback.cls ≠ "java/lang/invoke/MethodHandle" ∧ y_CS_chargeback.cls ≠ "java/lang/invoke/VarHandle" ∧ (parseMethodDescriptor y_CS_chargeback.desc).map (fun d => d.parameters.length) = some 2 := by decide +kernel
theorem pd_CS_represent : y_CS_represent.cls = R_CS ∧ y_CS_represent.cls ≠ "java/lang/invoke/MethodHandle" ∧ y_CS_represent.cls ≠ "java/lang/invoke/VarHandle" ∧ (parseMethodDescriptor y_CS_represent.desc).map (fun d => d.parameters.length) = some 2 := by decide +kernel
theorem pd_CS_reconcile : y_CS_reconcile.cls = R_CS ∧ y_CS_reconcile.cls ≠ "java/lang/invoke/MethodHandle" ∧ y_CS_reconcile.cls ≠ "java/lang/invoke/VarHandle" ∧ (parseMethodDescriptor y_CS_reconcile.desc).map (fun d => d.parameters.length) = some 3 := by decide +kernel
theorem pd_CS_cutoff : y_CS_cutoff.cls = R_CS ∧ y_CS_cutoff.cls ≠ "java/lang/invoke/MethodHandle" ∧ y_CS_cutoff.cls ≠ "java/lang/invoke/VarHandle" ∧ (parseMethodDescriptor y_CS_cutoff.desc).map (fun d => d.parameters.length) = some 0 := by decide +kernel
theorem pd_CS_tick : y_CS_tick.cls = R_CS ∧ y_CS_tick.cls ≠ "java/lang/invoke/MethodHandle" ∧ y_CS_tick.cls ≠ "java/lang/invoke/VarHandle" ∧ (parseMethodDescriptor y_CS_tick.desc).map (fun d => d.parameters.length) = some 1 := by decide +kernel
theorem pd_CS_flush : y_CS_flush.cls = R_CS ∧ y_CS_flush.cls ≠ "java/lang/invoke/MethodHandle" ∧ y_CS_flush.cls ≠ "java/lang/invoke/VarHandle" ∧ (parseMethodDescriptor y_CS_flush.desc).map (fun d => d.parameters.length) = some 0 := by decide +kernel
theorem pd_CS_crash : y_CS_crash.cls = R_CS ∧ y_CS_crash.cls ≠ "java/lang/invoke/MethodHandle" ∧ y_CS_crash.cls ≠ "java/lang/invoke/VarHandle" ∧ (parseMethodDescriptor y_CS_crash.desc).map (fun d => d.parameters.length) = some 1 := by decide +kernel
theorem pd_CS_unwritten : y_CS_unwritten.cls = R_CS ∧ y_CS_unwritten.cls ≠ "java/lang/invoke/MethodHandle" ∧ y_CS_unwritten.cls ≠ "java/lang/invoke/VarHandle" ∧ (parseMethodDescriptor y_CS_unwritten.desc).map (fun d => d.parameters.length) = some 0 := by decide +kernel
theorem pd_CS_state : y_CS_state.cls = R_CS ∧ y_CS_state.cls ≠ "java/lang/invoke/MethodHandle" ∧ y_CS_state.cls ≠ "java/lang/invoke/VarHandle" ∧ (parseMethodDescriptor y_CS_state.desc).map (fun d => d.parameters.length) = some 2 := by decide +kernel
theorem pd_CS_held : y_CS_held.cls = R_CS ∧ y_CS_held.cls ≠ "java/lang/invoke/MethodHandle" ∧ y_CS_held.cls ≠ "java/lang/invoke/VarHandle" ∧ (parseMethodDescriptor y_CS_held.desc).map (fun d => d.parameters.length) = some 2 := by decide +kernel
theorem pd_CS_available : y_CS_available.cls = R_CS ∧ y_CS_available.cls ≠ "java/lang/invoke/MethodHandle" ∧ y_CS_available.cls ≠ "java/lang/invoke/VarHandle" ∧ (parseMethodDescriptor y_CS_available.desc).map (fun d => d.parameters.length) = some 1 := by decide +kernel
theorem pd_CS_position : y_CS_position.cls = R_CS ∧ y_CS_position.cls ≠ "java/lang/invoke/MethodHandle" ∧ y_CS_position.cls ≠ "java/lang/invoke/VarHandle" ∧ (parseMethodDescriptor y_CS_position.desc).map (fun d => d.parameters.length) = some 1 := by decide +kernel
theorem pd_CS_settled : y_CS_settled.cls = R_CS ∧ y_CS_settled.cls ≠ "java/lang/invoke/MethodHandle" ∧ y_CS_settled.cls ≠ "java/lang/invoke/VarHandle" ∧ (parseMethodDescriptor y_CS_settled.desc).map (fun d => d.parameters.length) = some 1 := by decide +kernel
theorem pd_CS_within : y_CS_within.cls = R_CS ∧ y_CS_within.cls ≠ "java/lang/invoke/MethodHandle" ∧ y_CS_within.cls ≠ "java/lang/invoke/VarHandle" ∧ (parseMethodDescriptor y_CS_within.desc).map (fun d => d.parameters.length) = some 3 := by decide +kernel
theorem pd_CS_isBank : y_CS_isBank.cls = R_CS ∧ y_CS_isBank.cls ≠ "java/lang/invoke/MethodHandle" ∧ y_CS_isBank.cls ≠ "java/lang/invoke/VarHandle" ∧ (parseMethodDescriptor y_CS_isBank.desc).map (fun d => d.parameters.length) = some 1 := by decide +kernel
theorem pd_CS_isWrongKey : y_CS_isWrongKey.cls = R_CS ∧ y_CS_isWrongKey.cls ≠ "java/lang/invoke/MethodHandle" ∧ y_CS_isWrongKey.cls ≠ "java/lang/invoke/VarHandle" ∧ (parseMethodDescriptor y_CS_isWrongKey.desc).map (fun d => d.parameters.length) = some 2 := by decide +kernel
theorem pd_CS_isSound : y_CS_isSound.cls = R_CS ∧ y_CS_isSound.cls ≠ "java/lang/invoke/MethodHandle" ∧ y_CS_isSound.cls ≠ "java/lang/invoke/VarHandle" ∧ (parseMethodDescriptor y_CS_isSound.desc).map (fun d => d.parameters.length) = some 1 := by decide +kernel
theorem pd_CS_doubled : y_CS_doubled.cls = R_CS ∧ y_CS_doubled.cls ≠ "java/lang/invoke/MethodHandle" ∧ y_CS_doubled.cls ≠ "java/lang/invoke/VarHandle" ∧ (parseMethodDescriptor y_CS_doubled.desc).map (fun d => d.parameters.length) = some 1 := by decide +kernel
theorem pd_CS_feeOf : y_CS_feeOf.cls = R_CS ∧ y_CS_feeOf.cls ≠ "java/lang/invoke/MethodHandle" ∧ y_CS_feeOf.cls ≠ "java/lang/invoke/VarHandle" ∧ (parseMethodDescriptor y_CS_feeOf.desc).map (fun d => d.parameters.length) = some 2 := by decide +kernel
theorem pd_CS_shareOf : y_CS_shareOf.cls = R_CS ∧ y_CS_shareOf.cls ≠ "java/lang/invoke/MethodHandle" ∧ y_CS_shareOf.cls ≠ "java/lang/invoke/VarHandle" ∧ (parseMethodDescriptor y_CS_shareOf.desc).map (fun d => d.parameters.length) = some 2 := by decide +kernel
theorem pd_CS_findRoute : y_CS_findRoute.cls = R_CS ∧ y_CS_findRoute.cls ≠ "java/lang/invoke/MethodHandle" ∧ y_CS_findRoute.cls ≠ "java/lang/invoke/VarHandle" ∧ (parseMethodDescriptor y_CS_findRoute.desc).map (fun d => d.parameters.length) = some 1 := by decide +kernel
theorem pd_CS_routeOf : y_CS_routeOf.cls = R_CS ∧ y_CS_routeOf.cls ≠ "java/lang/invoke/MethodHandle" ∧ y_CS_routeOf.cls ≠ "java/lang/invoke/VarHandle" ∧ (parseMethodDescriptor y_CS_routeOf.desc).map (fun d => d.parameters.length) = some 1 := by decide +kernel
theorem pd_CS_findCard : y_CS_findCard.cls = R_CS ∧ y_CS_findCard.cls ≠ "java/lang/invoke/MethodHandle" ∧ y_CS_findCard.cls ≠ "java/lang/invoke/VarHandle" ∧ (parseMethodDescriptor y_CS_findCard.desc).map (fun d => d.parameters.length) = some 1 := by decide +kernel
theorem pd_CS_findPayment : y_CS_findPayment.cls = R_CS ∧ y_CS_findPayment.cls ≠ "java/lang/invoke/MethodHandle" ∧ y_CS_findPayment.cls ≠ "java/lang/invoke/VarHandle" ∧ (parseMethodDescriptor y_CS_findPayment.desc).map (fun d => d.parameters.length) = some 2 := by decide +kernel
theorem pd_CS_stateOf : y_CS_stateOf.cls = R_CS ∧ y_CS_stateOf.cls ≠ "java/lang/invoke/MethodHandle" ∧ y_CS_stateOf.cls ≠ "java/lang/invoke/VarHandle" ∧ (parseMethodDescriptor y_CS_stateOf.desc).map (fun d => d.parameters.length) = some 1 := by decide +kernel
theorem pd_CS_availableOn : y_CS_availableOn.cls = R_CS ∧ y_CS_availableOn.cls ≠ "java/lang/invoke/MethodHandle" ∧ y_CS_availableOn.cls ≠ "java/lang/invoke/VarHandle" ∧ (parseMethodDescriptor y_CS_availableOn.desc).map (fun d => d.parameters.length) = some 1 := by decide +kernel
theorem pd_CS_bindsAmount : y_CS_bindsAmount.cls = R_CS ∧ y_CS_bindsAmount.cls ≠ "java/lang/invoke/MethodHandle" ∧ y_CS_bindsAmount.cls ≠ "java/lang/invoke/VarHandle" ∧ (parseMethodDescriptor y_CS_bindsAmount.desc).map (fun d => d.parameters.length) = some 1 := by decide +kernel
theorem pd_CS_recentApprovals : y_CS_recentApprovals.cls = R_CS ∧ y_CS_recentApprovals.cls ≠ "java/lang/invoke/MethodHandle" ∧ y_CS_recentApprovals.cls ≠ "java/lang/invoke/VarHandle" ∧ (parseMethodDescriptor y_CS_recentApprovals.desc).map (fun d => d.parameters.length) = some 1 := by decide +kernel
theorem pd_CS_decide : y_CS_decide.cls = R_CS ∧ y_CS_decide.cls ≠ "java/lang/invoke/MethodHandle" ∧ y_CS_decide.cls ≠ "java/lang/invoke/VarHandle" ∧ (parseMethodDescriptor y_CS_decide.desc).map (fun d => d.parameters.length) = some 4 := by decide +kernel
theorem pd_CS_answerAgain : y_CS_answerAgain.cls = R_CS ∧ y_CS_answerAgain.cls ≠ "java/lang/invoke/MethodHandle" ∧ y_CS_answerAgain.cls ≠ "java/lang/invoke/VarHandle" ∧ (parseMethodDescriptor y_CS_answerAgain.desc).map (fun d => d.parameters.length) = some 4 := by decide +kernel
theorem pd_CS_stop : y_CS_stop.cls = R_CS ∧ y_CS_stop.cls ≠ "java/lang/invoke/MethodHandle" ∧ y_CS_stop.cls ≠ "java/lang/invoke/VarHandle" ∧ (parseMethodDescriptor y_CS_stop.desc).map (fun d => d.parameters.length) = some 2 := by decide +kernel
theorem pd_CS_lessen : y_CS_lessen.cls = R_CS ∧ y_CS_lessen.cls ≠ "java/lang/invoke/MethodHandle" ∧ y_CS_lessen.cls ≠ "java/lang/invoke/VarHandle" ∧ (parseMethodDescriptor y_CS_lessen.desc).map (fun d => d.parameters.length) = some 2 := by decide +kernel
theorem pd_CS_clear : y_CS_clear.cls = R_CS ∧ y_CS_clear.cls ≠ "java/lang/invoke/MethodHandle" ∧ y_CS_clear.cls ≠ "java/lang/invoke/VarHandle" ∧ (parseMethodDescriptor y_CS_clear.desc).map (fun d => d.parameters.length) = some 2 := by decide +kernel
theorem pd_CS_enterKey : y_CS_enterKey.cls = R_CS ∧ y_CS_enterKey.cls ≠ "java/lang/invoke/MethodHandle" ∧ y_CS_enterKey.cls ≠ "java/lang/invoke/VarHandle" ∧ (parseMethodDescriptor y_CS_enterKey.desc).map (fun d => d.parameters.length) = some 2 := by decide +kernel
theorem pd_CS_startChange : y_CS_startChange.cls = R_CS ∧ y_CS_startChange.cls ≠ "java/lang/invoke/MethodHandle" ∧ y_CS_startChange.cls ≠ "java/lang/invoke/VarHandle" ∧ (parseMethodDescriptor y_CS_startChange.desc).map (fun d => d.parameters.length) = some 2 := by decide +kernel
theorem pd_CS_undo : y_CS_undo.cls = R_CS ∧ y_CS_undo.cls ≠ "java/lang/invoke/MethodHandle" ∧ y_CS_undo.cls ≠ "java/lang/invoke/VarHandle" ∧ (parseMethodDescriptor y_CS_undo.desc).map (fun d => d.parameters.length) = some 1 := by decide +kernel
theorem pd_Mo_note : y_Mo_note.cls = R_Mo ∧ y_Mo_note.cls ≠ "java/lang/invoke/MethodHandle" ∧ y_Mo_note.cls ≠ "java/lang/invoke/VarHandle" ∧ (parseMethodDescriptor y_Mo_note.desc).map (fun d => d.parameters.length) = some 4 := by decide +kernel
theorem pd_Mo_wrongKey : y_Mo_wrongKey.cls = R_Mo ∧ y_Mo_wrongKey.cls ≠ "java/lang/invoke/MethodHandle" ∧ y_Mo_wrongKey.cls ≠ "java/lang/invoke/VarHandle" ∧ (parseMethodDescriptor y_Mo_wrongKey.desc).map (fun d => d.parameters.length) = some 2 := by decide +kernel
theorem pd_Mo_sound : y_Mo_sound.cls = R_Mo ∧ y_Mo_sound.cls ≠ "java/lang/invoke/MethodHandle" ∧ y_Mo_sound.cls ≠ "java/lang/invoke/VarHandle" ∧ (parseMethodDescriptor y_Mo_sound.desc).map (fun d => d.parameters.length) = some 1 := by decide +kernel
theorem pd_Mo_look : y_Mo_look.cls = R_Mo ∧ y_Mo_look.cls ≠ "java/lang/invoke/MethodHandle" ∧ y_Mo_look.cls ≠ "java/lang/invoke/VarHandle" ∧ (parseMethodDescriptor y_Mo_look.desc).map (fun d => d.parameters.length) = some 1 := by decide +kernel
theorem pd_Mo_follow : y_Mo_follow.cls = R_Mo ∧ y_Mo_follow.cls ≠ "java/lang/invoke/MethodHandle" ∧ y_Mo_follow.cls ≠ "java/lang/invoke/VarHandle" ∧ (parseMethodDescriptor y_Mo_follow.desc).map (fun d => d.parameters.length) = some 1 := by decide +kernel
theorem pd_Mo_cardAt : y_Mo_cardAt.cls = R_Mo ∧ y_Mo_cardAt.cls ≠ "java/lang/invoke/MethodHandle" ∧ y_Mo_cardAt.cls ≠ "java/lang/invoke/VarHandle" ∧ (parseMethodDescriptor y_Mo_cardAt.desc).map (fun d => d.parameters.length) = some 1 := by decide +kernel
theorem pd_Mo_routeOf : y_Mo_routeOf.cls = R_Mo ∧ y_Mo_routeOf.cls ≠ "java/lang/invoke/MethodHandle" ∧ y_Mo_routeOf.cls ≠ "java/lang/invoke/VarHandle" ∧ (parseMethodDescriptor y_Mo_routeOf.desc).map (fun d => d.parameters.length) = some 1 := by decide +kernel
theorem pd_Mo_inUse : y_Mo_inUse.cls = R_Mo ∧ y_Mo_inUse.cls ≠ "java/lang/invoke/MethodHandle" ∧ y_Mo_inUse.cls ≠ "java/lang/invoke/VarHandle" ∧ (parseMethodDescriptor y_Mo_inUse.desc).map (fun d => d.parameters.length) = some 0 := by decide +kernel
theorem pd_Mo_free : y_Mo_free.cls = R_Mo ∧ y_Mo_free.cls ≠ "java/lang/invoke/MethodHandle" ∧ y_Mo_free.cls ≠ "java/lang/invoke/VarHandle" ∧ (parseMethodDescriptor y_Mo_free.desc).map (fun d => d.parameters.length) = some 1 := by decide +kernel
theorem pd_Mo_latestCut : y_Mo_latestCut.cls = R_Mo ∧ y_Mo_latestCut.cls ≠ "java/lang/invoke/MethodHandle" ∧ y_Mo_latestCut.cls ≠ "java/lang/invoke/VarHandle" ∧ (parseMethodDescriptor y_Mo_latestCut.desc).map (fun d => d.parameters.length) = some 0 := by decide +kernel
theorem pd_Mo_fee : y_Mo_fee.cls = R_Mo ∧ y_Mo_fee.cls ≠ "java/lang/invoke/MethodHandle" ∧ y_Mo_fee.cls ≠ "java/lang/invoke/VarHandle" ∧ (parseMethodDescriptor y_Mo_fee.desc).map (fun d => d.parameters.length) = some 2 := by decide +kernel
theorem pd_Mo_route : y_Mo_route.cls = R_Mo ∧ y_Mo_route.cls ≠ "java/lang/invoke/MethodHandle" ∧ y_Mo_route.cls ≠ "java/lang/invoke/VarHandle" ∧ (parseMethodDescriptor y_Mo_route.desc).map (fun d => d.parameters.length) = some 3 := by decide +kernel
theorem pd_Mo_card : y_Mo_card.cls = R_Mo ∧ y_Mo_card.cls ≠ "java/lang/invoke/MethodHandle" ∧ y_Mo_card.cls ≠ "java/lang/invoke/VarHandle" ∧ (parseMethodDescriptor y_Mo_card.desc).map (fun d => d.parameters.length) = some 3 := by decide +kernel
theorem pd_Mo_decide : y_Mo_decide.cls = R_Mo ∧ y_Mo_decide.cls ≠ "java/lang/invoke/MethodHandle" ∧ y_Mo_decide.cls ≠ "java/lang/invoke/VarHandle" ∧ (parseMethodDescriptor y_Mo_decide.desc).map (fun d => d.parameters.length) = some 3 := by decide +kernel
theorem pd_Mo_authorise : y_Mo_authorise.cls = R_Mo ∧ y_Mo_authorise.cls ≠ "java/lang/invoke/MethodHandle" ∧ y_Mo_authorise.cls ≠ "java/lang/invoke/VarHandle" ∧ (parseMethodDescriptor y_Mo_authorise.desc).map (fun d => d.parameters.length) = some 5 := by decide +kernel
theorem pd_Mo_reverse : y_Mo_reverse.cls = R_Mo ∧ y_Mo_reverse.cls ≠ "java/lang/invoke/MethodHandle" ∧ y_Mo_reverse.cls ≠ "java/lang/invoke/VarHandle" ∧ (parseMethodDescriptor y_Mo_reverse.desc).map (fun d => d.parameters.length) = some 3 := by decide +kernel
theorem pd_Mo_present : y_Mo_present.cls = R_Mo ∧ y_Mo_present.cls ≠ "java/lang/invoke/MethodHandle" ∧ y_Mo_present.cls ≠ "java/lang/invoke/VarHandle" ∧ (parseMethodDescriptor y_Mo_present.desc).map (fun d => d.parameters.length) = some 3 := by decide +kernel
theorem pd_Mo_chargeback : y_Mo_chargeback.cls = R_Mo ∧ y_Mo_chargeback.cls ≠ "java/lang/invoke/MethodHandle" ∧ y_Mo_chargeback.cls ≠ "java/lang/invoke/VarHandle" ∧ (parseMethodDescriptor y_Mo_chargeback.desc).map (fun d => d.parameters.length) = some 2 := by decide +kernel
theorem pd_Mo_represent : y_Mo_represent.cls = R_Mo ∧ y_Mo_represent.cls ≠ "java/lang/invoke/MethodHandle" ∧ y_Mo_represent.cls ≠ "java/lang/invoke/VarHandle" ∧ (parseMethodDescriptor y_Mo_represent.desc).map (fun d => d.parameters.length) = some 2 := by decide +kernel
theorem pd_Mo_reconcile : y_Mo_reconcile.cls = R_Mo ∧ y_Mo_reconcile.cls ≠ "java/lang/invoke/MethodHandle" ∧ y_Mo_reconcile.cls ≠ "java/lang/invoke/VarHandle" ∧ (parseMethodDescriptor y_Mo_reconcile.desc).map (fun d => d.parameters.length) = some 3 := by decide +kernel
theorem pd_Mo_cutoff : y_Mo_cutoff.cls = R_Mo ∧ y_Mo_cutoff.cls ≠ "java/lang/invoke/MethodHandle" ∧ y_Mo_cutoff.cls ≠ "java/lang/invoke/VarHandle" ∧ (parseMethodDescriptor y_Mo_cutoff.desc).map (fun d => d.parameters.length) = some 0 := by decide +kernel
theorem pd_Mo_added : y_Mo_added.cls = R_Mo ∧ y_Mo_added.cls ≠ "java/lang/invoke/MethodHandle" ∧ y_Mo_added.cls ≠ "java/lang/invoke/VarHandle" ∧ (parseMethodDescriptor y_Mo_added.desc).map (fun d => d.parameters.length) = some 2 := by decide +kernel
theorem pd_Mo_sum : y_Mo_sum.cls = R_Mo ∧ y_Mo_sum.cls ≠ "java/lang/invoke/MethodHandle" ∧ y_Mo_sum.cls ≠ "java/lang/invoke/VarHandle" ∧ (parseMethodDescriptor y_Mo_sum.desc).map (fun d => d.parameters.length) = some 3 := by decide +kernel
theorem pd_Mo_tick : y_Mo_tick.cls = R_Mo ∧ y_Mo_tick.cls ≠ "java/lang/invoke/MethodHandle" ∧ y_Mo_tick.cls ≠ "java/lang/invoke/VarHandle" ∧ (parseMethodDescriptor y_Mo_tick.desc).map (fun d => d.parameters.length) = some 1 := by decide +kernel
theorem pd_Mo_flush : y_Mo_flush.cls = R_Mo ∧ y_Mo_flush.cls ≠ "java/lang/invoke/MethodHandle" ∧ y_Mo_flush.cls ≠ "java/lang/invoke/VarHandle" ∧ (parseMethodDescriptor y_Mo_flush.desc).map (fun d => d.parameters.length) = some 0 := by decide +kernel
theorem pd_Mo_crash : y_Mo_crash.cls = R_Mo ∧ y_Mo_crash.cls ≠ "java/lang/invoke/MethodHandle" ∧ y_Mo_crash.cls ≠ "java/lang/invoke/VarHandle" ∧ (parseMethodDescriptor y_Mo_crash.desc).map (fun d => d.parameters.length) = some 1 := by decide +kernel
theorem pd_Mo_unwritten : y_Mo_unwritten.cls = R_Mo ∧ y_Mo_unwritten.cls ≠ "java/lang/invoke/MethodHandle" ∧ y_Mo_unwritten.cls ≠ "java/lang/invoke/VarHandle" ∧ (parseMethodDescriptor y_Mo_unwritten.desc).map (fun d => d.parameters.length) = some 0 := by decide +kernel
theorem pd_Mo_state : y_Mo_state.cls = R_Mo ∧ y_Mo_state.cls ≠ "java/lang/invoke/MethodHandle" ∧ y_Mo_state.cls ≠ "java/lang/invoke/VarHandle" ∧ (parseMethodDescriptor y_Mo_state.desc).map (fun d => d.parameters.length) = some 2 := by decide +kernel
theorem pd_Mo_held : y_Mo_held.cls = R_Mo ∧ y_Mo_held.cls ≠ "java/lang/invoke/MethodHandle" ∧ y_Mo_held.cls ≠ "java/lang/invoke/VarHandle" ∧ (parseMethodDescriptor y_Mo_held.desc).map (fun d => d.parameters.length) = some 2 := by decide +kernel
theorem pd_Mo_available : y_Mo_available.cls = R_Mo ∧ y_Mo_available.cls ≠ "java/lang/invoke/MethodHandle" ∧ y_Mo_available.cls ≠ "java/lang/invoke/VarHandle" ∧ (parseMethodDescriptor y_Mo_available.desc).map (fun d => d.parameters.length) = some 1 := by decide +kernel
theorem pd_Mo_position : y_Mo_position.cls = R_Mo ∧ y_Mo_position.cls ≠ "java/lang/invoke/MethodHandle" ∧ y_Mo_position.cls ≠ "java/lang/invoke/VarHandle" ∧ (parseMethodDescriptor y_Mo_position.desc).map (fun d => d.parameters.length) = some 1 := by decide +kernel
theorem pd_Mo_settled : y_Mo_settled.cls = R_Mo ∧ y_Mo_settled.cls ≠ "java/lang/invoke/MethodHandle" ∧ y_Mo_settled.cls ≠ "java/lang/invoke/VarHandle" ∧ (parseMethodDescriptor y_Mo_settled.desc).map (fun d => d.parameters.length) = some 1 := by decide +kernel
theorem pd_Le_take : y_Le_take.cls = R_Le ∧ y_Le_take.cls ≠ "java/lang/invoke/MethodHandle" ∧ y_Le_take.cls ≠ "java/lang/invoke/VarHandle" ∧ (parseMethodDescriptor y_Le_take.desc).map (fun d => d.parameters.length) = some 5 := by decide +kernel
theorem pd_Le_giveBack : y_Le_giveBack.cls = R_Le ∧ y_Le_giveBack.cls ≠ "java/lang/invoke/MethodHandle" ∧ y_Le_giveBack.cls ≠ "java/lang/invoke/VarHandle" ∧ (parseMethodDescriptor y_Le_giveBack.desc).map (fun d => d.parameters.length) = some 3 := by decide +kernel
theorem pd_Le_takeAgain : y_Le_takeAgain.cls = R_Le ∧ y_Le_takeAgain.cls ≠ "java/lang/invoke/MethodHandle" ∧ y_Le_takeAgain.cls ≠ "java/lang/invoke/VarHandle" ∧ (parseMethodDescriptor y_Le_takeAgain.desc).map (fun d => d.parameters.length) = some 3 := by decide +kernel
theorem pd_Le_settle : y_Le_settle.cls = R_Le ∧ y_Le_settle.cls ≠ "java/lang/invoke/MethodHandle" ∧ y_Le_settle.cls ≠ "java/lang/invoke/VarHandle" ∧ (parseMethodDescriptor y_Le_settle.desc).map (fun d => d.parameters.length) = some 0 := by decide +kernel
theorem pd_Le_copyFrom : y_Le_copyFrom.cls = R_Le ∧ y_Le_copyFrom.cls ≠ "java/lang/invoke/MethodHandle" ∧ y_Le_copyFrom.cls ≠ "java/lang/invoke/VarHandle" ∧ (parseMethodDescriptor y_Le_copyFrom.desc).map (fun d => d.parameters.length) = some 1 := by decide +kernel
theorem pd_Pa_begin : y_Pa_begin.cls = R_Pa ∧ y_Pa_begin.cls ≠ "java/lang/invoke/MethodHandle" ∧ y_Pa_begin.cls ≠ "java/lang/invoke/VarHandle" ∧ (parseMethodDescriptor y_Pa_begin.desc).map (fun d => d.parameters.length) = some 2 := by decide +kernel
set_option maxRecDepth 100000 in
set_option maxHeartbeats 4000000 in
theorem c_CS_within (l : Launch) (D : va_G) (dA : Nat → ClassId) (v lo hi : Int32) : Met l y_CS_within (wsm y_CS_within b_CS_within 3 (some .boolean)) ({ frames := 0, cells := 0, slots := 0, locals := 0 }) (PC D dA [.int v, .int lo, .int hi] (fun _ => True)) (Qp (.int (bI (lo ≤ v ∧ v ≤ hi)))) 0 0 (fun _ => False) := by
  refine MetG (L := [some (.int v), some (.int lo), some (.int hi)]) (by decide) rfl (Nat.le_of_ble_eq_true rfl) rfl ?_
  intro p e s m below meth c ls hx hb hr hml hts hown hlocks hmn hl hK hw
  refine x_iload_n hx hb hl d_CS_within_0 rfl ?_
  refine x_iload_n hx hb hl d_CS_within_1 rfl ?_
  refine lv_icmp_lt (tgt := 14) hx hb d_CS_within_2 rfl (fun h2 => ?_) (fun h2 => ?_)
  · refine lv_iconst (v := 0) hx hb d_CS_within_14 rfl ?_
    exact ret_z hx hb hlocks hr d_CS_within_15 (by decide) (by simp only [bI, Value.int.injEq]; split <;> first | rfl | (exfalso; simp only [wrongKey, Int32.lt_iff_toInt_lt, Int32.le_iff_toInt_le] at *; omega))
  · refine x_iload_n hx hb hl d_CS_within_5 rfl ?_
    refine x_iload_n hx hb hl d_CS_within_6 rfl ?_
    refine lv_icmp_gt (tgt := 14) hx hb d_CS_within_7 rfl (fun h7 => ?_) (fun h7 => ?_)
    · refine lv_iconst (v := 0) hx hb d_CS_within_14 rfl ?_
      exact ret_z hx hb hlocks hr d_CS_within_15 (by decide) (by simp only [bI, Value.int.injEq]; split <;> first | rfl | (exfalso; simp only [wrongKey, Int32.lt_iff_toInt_lt, Int32.le_iff_toInt_le] at *; omega))
    · refine lv_iconst (v := 1) hx hb d_CS_within_10 rfl ?_
      refine lv_goto (tgt := 15) hx hb d_CS_within_11 rfl ?_
      exact ret_z hx hb hlocks hr d_CS_within_15 (by decide) (by simp only [bI, Value.int.injEq]; split <;> first | rfl | (exfalso; simp only [wrongKey, Int32.lt_iff_toInt_lt, Int32.le_iff_toInt_le] at *; omega))
set_option maxRecDepth 100000 in
set_option maxHeartbeats 4000000 in
theorem c_CS_isBank (l : Launch) (D : va_G) (dA : Nat → ClassId) (b : Int32) : Met l y_CS_isBank (wsm y_CS_isBank b_CS_isBank 1 (some .boolean)) ({ frames := 1, cells := 0, slots := 0, locals := 22 }) (PC D dA [.int b] (fun _ => True)) (Qp (.int (bI (0 ≤ b ∧ b ≤ 3)))) 0 0 (fun _ => False) := by
  refine MetG (L := [some (.int b)]) (by decide) rfl (Nat.le_of_ble_eq_true rfl) rfl ?_
  intro p e s m below meth c ls hx hb hr hml hts hown hlocks hmn hl hK hw
  refine x_iload_n hx hb hl d_CS_isBank_0 rfl ?_
  refine lv_iconst (v := 0) hx hb d_CS_isBank_1 rfl ?_
  refine lv_iconst (v := 3) hx hb d_CS_isBank_2 rfl ?_
  refine call_sp (c_CS_within l D dA _ _ _) hx hb hml hl.size hts hown hK trivial (wsS_good co_CS_within ml_CS_44 st_CS_within in_CS) pd_CS_within rfl (by decide) rfl (Nat.le_of_ble_eq_true rfl) ⟨Nat.zero_le _, Nat.zero_le _⟩ d_CS_isBank_3 ?_
  exact ret_z hx hb hlocks hr d_CS_isBank_6 (bI_01 _) (by rfl)
set_option maxRecDepth 100000 in
set_option maxHeartbeats 4000000 in
theorem c_CS_isWrongKey (l : Launch) (D : va_G) (dA : Nat → ClassId) (a t : Int32) : Met l y_CS_isWrongKey (wsm y_CS_isWrongKey b_CS_isWrongKey 2 (some .boolean)) ({ frames := 2, cells := 0, slots := 0, locals := 42 }) (PC D dA [.int a, .int t] (fun _ => True)) (Qp (.int (bI (wrongKey a t)))) 0 0 (fun _ => False) := by
  refine MetG (L := [some (.int a), some (.int t)]) (by decide) rfl (Nat.le_of_ble_eq_true rfl) rfl ?_
  intro p e s m below meth c ls hx hb hr hml hts hown hlocks hmn hl hK hw
  refine x_iload_n hx hb hl d_CS_isWrongKey_0 rfl ?_
  refine call_sp (c_CS_isBank l D dA _) hx hb hml hl.size hts hown hK trivial (wsS_good co_CS_isBank ml_CS_48 st_CS_isBank in_CS) pd_CS_isBank rfl (by decide) rfl (Nat.le_of_ble_eq_true rfl) ⟨Nat.zero_le _, Nat.zero_le _⟩ d_CS_isWrongKey_1 ?_
  refine lv_if_eq (tgt := 18) hx hb d_CS_isWrongKey_4 rfl (fun h4 => ?_) (fun h4 => ?_)
  · replace h4 := bI_eq0.mp h4
    refine lv_iconst (v := 1) hx hb d_CS_isWrongKey_18 rfl ?_
    refine lv_goto (tgt := 23) hx hb d_CS_isWrongKey_19 rfl ?_
    exact ret_z hx hb hlocks hr d_CS_isWrongKey_23 (by decide) (by simp_all [bI])
  · replace h4 := bI_ne0.mp h4
    refine x_iload_n hx hb hl d_CS_isWrongKey_7 rfl ?_
    refine lv_iconst (v := 1) hx hb d_CS_isWrongKey_8 rfl ?_
    refine lv_sipush (v := 9999) hx hb d_CS_isWrongKey_9 rfl ?_
    refine call_sp (c_CS_within l D dA _ _ _) hx hb hml hl.size hts hown hK trivial (wsS_good co_CS_within ml_CS_44 st_CS_within in_CS) pd_CS_within rfl (by decide) rfl (Nat.le_of_ble_eq_true rfl) ⟨Nat.zero_le _, Nat.zero_le _⟩ d_CS_isWrongKey_12 ?_
    refine lv_if_ne (tgt := 22) hx hb d_CS_isWrongKey_15 rfl (fun h15 => ?_) (fun h15 => ?_)
    · replace h15 := bI_ne0.mp h15
      refine lv_iconst (v := 0) hx hb d_CS_isWrongKey_22 rfl ?_
      exact ret_z hx hb hlocks hr d_CS_isWrongKey_23 (by decide) (by simp_all [bI])
    · replace h15 := bI_eq0.mp h15
      refine lv_iconst (v := 1) hx hb d_CS_isWrongKey_18 rfl ?_
      refine lv_goto (tgt := 23) hx hb d_CS_isWrongKey_19 rfl ?_
      exact ret_z hx hb hlocks hr d_CS_isWrongKey_23 (by decide) (by simp_all [bI])
set_option maxRecDepth 100000 in
set_option maxHeartbeats 4000000 in
theorem c_CS_doubled (l : Launch) (D : va_G) (dA : Nat → ClassId) (d : Int32) : Met l y_CS_doubled (wsm y_CS_doubled b_CS_doubled 2 (some .int)) ({ frames := 0, cells := 0, slots := 0, locals := 0 }) (PC D dA [.int d] (fun _ => True)) (Qp (.int (dbl d))) 0 0 (fun _ => False) := by
  refine MetG (L := [some (.int d), none]) (by decide) rfl (Nat.le_of_ble_eq_true rfl) rfl ?_
  intro p e s m below meth c ls hx hb hr hml hts hown hlocks hmn hl hK hw
  refine lv_iconst (v := 2) hx hb d_CS_doubled_0 rfl ?_
  refine x_iload_n hx hb hl d_CS_doubled_1 rfl ?_
  refine lv_imul hx hb d_CS_doubled_2 ?_
  refine x_istore_n hx hb hl d_CS_doubled_3 rfl (fun ls hl => ?_)
  refine x_iload_n hx hb hl d_CS_doubled_4 rfl ?_
  refine lv_bipush (v := 9) hx hb d_CS_doubled_5 rfl ?_
  refine lv_icmp_le (tgt := 17) hx hb d_CS_doubled_7 rfl (fun h7 => ?_) (fun h7 => ?_)
  · refine x_iload_n hx hb hl d_CS_doubled_17 rfl ?_
    exact ret_i hx hb hlocks hr d_CS_doubled_18 (by simp only [dbl, Value.int.injEq]; split <;> first | rfl | (exfalso; simp only [wrongKey, Int32.lt_iff_toInt_lt, Int32.le_iff_toInt_le] at *; omega))
  · refine x_iload_n hx hb hl d_CS_doubled_10 rfl ?_
    refine lv_bipush (v := 9) hx hb d_CS_doubled_11 rfl ?_
    refine lv_isub hx hb d_CS_doubled_13 ?_
    refine lv_goto (tgt := 18) hx hb d_CS_doubled_14 rfl ?_
    exact ret_i hx hb hlocks hr d_CS_doubled_18 (by simp only [dbl, Value.int.injEq]; split <;> first | rfl | (exfalso; simp only [wrongKey, Int32.lt_iff_toInt_lt, Int32.le_iff_toInt_le] at *; omega))
set_option maxRecDepth 100000 in
set_option maxHeartbeats 4000000 in
theorem c_CS_feeOf (l : Launch) (D : va_G) (dA : Nat → ClassId) (a r : Int32) : Met l y_CS_feeOf (wsm y_CS_feeOf b_CS_feeOf 2 (some .int)) ({ frames := 0, cells := 0, slots := 0, locals := 0 }) (PC D dA [.int a, .int r] (fun _ => True)) (Qp (.int (feeV a r))) 0 0 (fun _ => False) := by
  refine MetG (L := [some (.int a), some (.int r)]) (by decide) rfl (Nat.le_of_ble_eq_true rfl) rfl ?_
  intro p e s m below meth c ls hx hb hr hml hts hown hlocks hmn hl hK hw
  refine x_iload_n hx hb hl d_CS_feeOf_0 rfl ?_
  refine x_iload_n hx hb hl d_CS_feeOf_1 rfl ?_
  refine lv_imul hx hb d_CS_feeOf_2 ?_
  refine lv_sipush (v := 9999) hx hb d_CS_feeOf_3 rfl ?_
  refine lv_iadd hx hb d_CS_feeOf_6 ?_
  refine lv_sipush (v := 10000) hx hb d_CS_feeOf_7 rfl ?_
  refine lv_idiv hx hb d_CS_feeOf_10 (by decide) ?_
  exact ret_i hx hb hlocks hr d_CS_feeOf_11 (by rfl)
set_option maxRecDepth 100000 in
set_option maxHeartbeats 4000000 in
theorem c_CS_shareOf (l : Launch) (D : va_G) (dA : Nat → ClassId) (a r : Int32) : Met l y_CS_shareOf (wsm y_CS_shareOf b_CS_shareOf 2 (some .int)) ({ frames := 0, cells := 0, slots := 0, locals := 0 }) (PC D dA [.int a, .int r] (fun _ => True)) (Qp (.int (shareV a r))) 0 0 (fun _ => False) := by
  refine MetG (L := [some (.int a), some (.int r)]) (by decide) rfl (Nat.le_of_ble_eq_true rfl) rfl ?_
  intro p e s m below meth c ls hx hb hr hml hts hown hlocks hmn hl hK hw
  refine x_iload_n hx hb hl d_CS_shareOf_0 rfl ?_
  refine x_iload_n hx hb hl d_CS_shareOf_1 rfl ?_
  refine lv_imul hx hb d_CS_shareOf_2 ?_
  refine lv_iconst (v := 3) hx hb d_CS_shareOf_3 rfl ?_
  refine lv_imul hx hb d_CS_shareOf_4 ?_
  refine lv_ldc hx hb hown (hts _ kn_CS_213) d_CS_shareOf_5 ?_
  refine lv_idiv hx hb d_CS_shareOf_7 (by decide) ?_
  exact ret_i hx hb hlocks hr d_CS_shareOf_8 (by rfl)
set_option maxRecDepth 100000 in
set_option maxHeartbeats 4000000 in
theorem c_CS_bindsAmount (l : Launch) (D : va_G) (dA : Nat → ClassId) (st : Int32) : Met l y_CS_bindsAmount (wsm y_CS_bindsAmount b_CS_bindsAmount 1 (some .boolean)) ({ frames := 0, cells := 0, slots := 0, locals := 0 }) (PC D dA [.int st] (fun _ => True)) (Qp (.int (bI (binds st)))) 0 0 (fun _ => False) := by
  refine MetG (L := [some (.int st)]) (by decide) rfl (Nat.le_of_ble_eq_true rfl) rfl ?_
  intro p e s m below meth c ls hx hb hr hml hts hown hlocks hmn hl hK hw
  refine x_iload_n hx hb hl d_CS_bindsAmount_0 rfl ?_
  refine lv_iconst (v := 2) hx hb d_CS_bindsAmount_1 rfl ?_
  refine lv_icmp_eq (tgt := 23) hx hb d_CS_bindsAmount_2 rfl (fun h2 => ?_) (fun h2 => ?_)
  · refine lv_iconst (v := 1) hx hb d_CS_bindsAmount_23 rfl ?_
    refine lv_goto (tgt := 28) hx hb d_CS_bindsAmount_24 rfl ?_
    exact ret_z hx hb hlocks hr d_CS_bindsAmount_28 (by decide) (by simp_all [bI])
  · refine x_iload_n hx hb hl d_CS_bindsAmount_5 rfl ?_
    refine lv_bipush (v := 6) hx hb d_CS_bindsAmount_6 rfl ?_
    refine lv_icmp_eq (tgt := 23) hx hb d_CS_bindsAmount_8 rfl (fun h8 => ?_) (fun h8 => ?_)
    · refine lv_iconst (v := 1) hx hb d_CS_bindsAmount_23 rfl ?_
      refine lv_goto (tgt := 28) hx hb d_CS_bindsAmount_24 rfl ?_
      exact ret_z hx hb hlocks hr d_CS_bindsAmount_28 (by decide) (by simp_all [bI])
    · refine x_iload_n hx hb hl d_CS_bindsAmount_11 rfl ?_
      refine lv_bipush (v := 7) hx hb d_CS_bindsAmount_12 rfl ?_
      refine lv_icmp_eq (tgt := 23) hx hb d_CS_bindsAmount_14 rfl (fun h14 => ?_) (fun h14 => ?_)
      · refine lv_iconst (v := 1) hx hb d_CS_bindsAmount_23 rfl ?_
        refine lv_goto (tgt := 28) hx hb d_CS_bindsAmount_24 rfl ?_
        exact ret_z hx hb hlocks hr d_CS_bindsAmount_28 (by decide) (by simp_all [bI])
      · refine x_iload_n hx hb hl d_CS_bindsAmount_17 rfl ?_
        refine lv_bipush (v := 8) hx hb d_CS_bindsAmount_18 rfl ?_
        refine lv_icmp_ne (tgt := 27) hx hb d_CS_bindsAmount_20 rfl (fun h20 => ?_) (fun h20 => ?_)
        · refine lv_iconst (v := 0) hx hb d_CS_bindsAmount_27 rfl ?_
          exact ret_z hx hb hlocks hr d_CS_bindsAmount_28 (by decide) (by simp_all [bI])
        · refine lv_iconst (v := 1) hx hb d_CS_bindsAmount_23 rfl ?_
          refine lv_goto (tgt := 28) hx hb d_CS_bindsAmount_24 rfl ?_
          exact ret_z hx hb hlocks hr d_CS_bindsAmount_28 (by decide) (by simp_all [bI])
set_option maxRecDepth 100000 in
set_option maxHeartbeats 4000000 in
theorem c_Mo_wrongKey (l : Launch) (D : va_G) (dA : Nat → ClassId) (a t : Int32) : Met l y_Mo_wrongKey (wsm y_Mo_wrongKey b_Mo_wrongKey 2 (some .boolean)) ({ frames := 0, cells := 0, slots := 0, locals := 0 }) (PC D dA [.int a, .int t] (fun _ => True)) (Qp (.int (bI (wrongKey a t)))) 0 0 (fun _ => False) := by
  refine MetG (L := [some (.int a), some (.int t)]) (by decide) rfl (Nat.le_of_ble_eq_true rfl) rfl ?_
  intro p e s m below meth c ls hx hb hr hml hts hown hlocks hmn hl hK hw
  refine x_iload_n hx hb hl d_Mo_wrongKey_0 rfl ?_
  refine lv_if_lt (tgt := 21) hx hb d_Mo_wrongKey_1 rfl (fun h1 => ?_) (fun h1 => ?_)
  · refine lv_iconst (v := 1) hx hb d_Mo_wrongKey_21 rfl ?_
    refine lv_goto (tgt := 26) hx hb d_Mo_wrongKey_22 rfl ?_
    exact ret_z hx hb hlocks hr d_Mo_wrongKey_26 (by decide) (by simp only [bI, Value.int.injEq]; split <;> first | rfl | (exfalso; simp only [wrongKey, Int32.lt_iff_toInt_lt, Int32.le_iff_toInt_le] at *; omega))
  · refine x_iload_n hx hb hl d_Mo_wrongKey_4 rfl ?_
    refine lv_iconst (v := 3) hx hb d_Mo_wrongKey_5 rfl ?_
    refine lv_icmp_gt (tgt := 21) hx hb d_Mo_wrongKey_6 rfl (fun h6 => ?_) (fun h6 => ?_)
    · refine lv_iconst (v := 1) hx hb d_Mo_wrongKey_21 rfl ?_
      refine lv_goto (tgt := 26) hx hb d_Mo_wrongKey_22 rfl ?_
      exact ret_z hx hb hlocks hr d_Mo_wrongKey_26 (by decide) (by simp only [bI, Value.int.injEq]; split <;> first | rfl | (exfalso; simp only [wrongKey, Int32.lt_iff_toInt_lt, Int32.le_iff_toInt_le] at *; omega))
    · refine x_iload_n hx hb hl d_Mo_wrongKey_9 rfl ?_
      refine lv_iconst (v := 1) hx hb d_Mo_wrongKey_10 rfl ?_
      refine lv_icmp_lt (tgt := 21) hx hb d_Mo_wrongKey_11 rfl (fun h11 => ?_) (fun h11 => ?_)
      · refine lv_iconst (v := 1) hx hb d_Mo_wrongKey_21 rfl ?_
        refine lv_goto (tgt := 26) hx hb d_Mo_wrongKey_22 rfl ?_
        exact ret_z hx hb hlocks hr d_Mo_wrongKey_26 (by decide) (by simp only [bI, Value.int.injEq]; split <;> first | rfl | (exfalso; simp only [wrongKey, Int32.lt_iff_toInt_lt, Int32.le_iff_toInt_le] at *; omega))
      · refine x_iload_n hx hb hl d_Mo_wrongKey_14 rfl ?_
        refine lv_sipush (v := 9999) hx hb d_Mo_wrongKey_15 rfl ?_
        refine lv_icmp_le (tgt := 25) hx hb d_Mo_wrongKey_18 rfl (fun h18 => ?_) (fun h18 => ?_)
        · refine lv_iconst (v := 0) hx hb d_Mo_wrongKey_25 rfl ?_
          exact ret_z hx hb hlocks hr d_Mo_wrongKey_26 (by decide) (by simp only [bI, Value.int.injEq]; split <;> first | rfl | (exfalso; simp only [wrongKey, Int32.lt_iff_toInt_lt, Int32.le_iff_toInt_le] at *; omega))
        · refine lv_iconst (v := 1) hx hb d_Mo_wrongKey_21 rfl ?_
          refine lv_goto (tgt := 26) hx hb d_Mo_wrongKey_22 rfl ?_
          exact ret_z hx hb hlocks hr d_Mo_wrongKey_26 (by decide) (by simp only [bI, Value.int.injEq]; split <;> first | rfl | (exfalso; simp only [wrongKey, Int32.lt_iff_toInt_lt, Int32.le_iff_toInt_le] at *; omega))
set_option maxRecDepth 100000 in
set_option maxHeartbeats 4000000 in
theorem c_Mo_fee (l : Launch) (D : va_G) (dA : Nat → ClassId) (a r : Int32) : Met l y_Mo_fee (wsm y_Mo_fee b_Mo_fee 2 (some .int)) ({ frames := 0, cells := 0, slots := 0, locals := 0 }) (PC D dA [.int a, .int r] (fun _ => True)) (Qp (.int (feeV a r))) 0 0 (fun _ => False) := by
  refine MetG (L := [some (.int a), some (.int r)]) (by decide) rfl (Nat.le_of_ble_eq_true rfl) rfl ?_
  intro p e s m below meth c ls hx hb hr hml hts hown hlocks hmn hl hK hw
  refine x_iload_n hx hb hl d_Mo_fee_0 rfl ?_
  refine x_iload_n hx hb hl d_Mo_fee_1 rfl ?_
  refine lv_imul hx hb d_Mo_fee_2 ?_
  refine lv_sipush (v := 9999) hx hb d_Mo_fee_3 rfl ?_
  refine lv_iadd hx hb d_Mo_fee_6 ?_
  refine lv_sipush (v := 10000) hx hb d_Mo_fee_7 rfl ?_
  refine lv_idiv hx hb d_Mo_fee_10 (by decide) ?_
  exact ret_i hx hb hlocks hr d_Mo_fee_11 (by rfl)
