/-! names: a method's code and name -/
abbrev b_ms_init : ByteArray := prog_1_method_1_code
def y_ms_init : MethodName := ⟨"MeasuredStages", "<init>", "()V"⟩
theorem hd_ms_init : y_ms_init.cls ≠ "java/lang/invoke/MethodHandle" ∧ y_ms_init.cls ≠ "java/lang/invoke/VarHandle" ∧ (parseMethodDescriptor y_ms_init.desc).map (fun d => d.parameters.length) = some 0 := by decide +kernel
abbrev b_ms_image : ByteArray := prog_1_method_2_code
def y_ms_image : MethodName := ⟨"MeasuredStages", "image", "(IJ)V"⟩
theorem hd_ms_image : y_ms_image.cls ≠ "java/lang/invoke/MethodHandle" ∧ y_ms_image.cls ≠ "java/lang/invoke/VarHandle" ∧ (parseMethodDescriptor y_ms_image.desc).map (fun d => d.parameters.length) = some 2 := by decide +kernel
abbrev b_ms_approve : ByteArray := prog_1_method_3_code
def y_ms_approve : MethodName := ⟨"MeasuredStages", "approve", "(I)V"⟩
theorem hd_ms_approve : y_ms_approve.cls ≠ "java/lang/invoke/MethodHandle" ∧ y_ms_approve.cls ≠ "java/lang/invoke/VarHandle" ∧ (parseMethodDescriptor y_ms_approve.desc).map (fun d => d.parameters.length) = some 1 := by decide +kernel
abbrev b_ms_boot : ByteArray := prog_1_method_4_code
def y_ms_boot : MethodName := ⟨"MeasuredStages", "boot", "(I)I"⟩
theorem hd_ms_boot : y_ms_boot.cls ≠ "java/lang/invoke/MethodHandle" ∧ y_ms_boot.cls ≠ "java/lang/invoke/VarHandle" ∧ (parseMethodDescriptor y_ms_boot.desc).map (fun d => d.parameters.length) = some 1 := by decide +kernel
abbrev b_ms_fault : ByteArray := prog_1_method_5_code
def y_ms_fault : MethodName := ⟨"MeasuredStages", "fault", "()I"⟩
theorem hd_ms_fault : y_ms_fault.cls ≠ "java/lang/invoke/MethodHandle" ∧ y_ms_fault.cls ≠ "java/lang/invoke/VarHandle" ∧ (parseMethodDescriptor y_ms_fault.desc).map (fun d => d.parameters.length) = some 0 := by decide +kernel
abbrev b_ms_launched : ByteArray := prog_1_method_6_code
def y_ms_launched : MethodName := ⟨"MeasuredStages", "launched", "()I"⟩
theorem hd_ms_launched : y_ms_launched.cls ≠ "java/lang/invoke/MethodHandle" ∧ y_ms_launched.cls ≠ "java/lang/invoke/VarHandle" ∧ (parseMethodDescriptor y_ms_launched.desc).map (fun d => d.parameters.length) = some 0 := by decide +kernel
abbrev b_ms_steps : ByteArray := prog_1_method_7_code
def y_ms_steps : MethodName := ⟨"MeasuredStages", "steps", "()I"⟩
theorem hd_ms_steps : y_ms_steps.cls ≠ "java/lang/invoke/MethodHandle" ∧ y_ms_steps.cls ≠ "java/lang/invoke/VarHandle" ∧ (parseMethodDescriptor y_ms_steps.desc).map (fun d => d.parameters.length) = some 0 := by decide +kernel
abbrev b_ms_acc : ByteArray := prog_1_method_8_code
def y_ms_acc : MethodName := ⟨"MeasuredStages", "acc", "()J"⟩
theorem hd_ms_acc : y_ms_acc.cls ≠ "java/lang/invoke/MethodHandle" ∧ y_ms_acc.cls ≠ "java/lang/invoke/VarHandle" ∧ (parseMethodDescriptor y_ms_acc.desc).map (fun d => d.parameters.length) = some 0 := by decide +kernel
abbrev b_ms_register : ByteArray := prog_1_method_9_code
def y_ms_register : MethodName := ⟨"MeasuredStages", "register", "(I)J"⟩
theorem hd_ms_register : y_ms_register.cls ≠ "java/lang/invoke/MethodHandle" ∧ y_ms_register.cls ≠ "java/lang/invoke/VarHandle" ∧ (parseMethodDescriptor y_ms_register.desc).map (fun d => d.parameters.length) = some 1 := by decide +kernel
abbrev b_ms_extend : ByteArray := prog_1_method_10_code
def y_ms_extend : MethodName := ⟨"MeasuredStages", "extend", "(IJ)V"⟩
theorem hd_ms_extend : y_ms_extend.cls ≠ "java/lang/invoke/MethodHandle" ∧ y_ms_extend.cls ≠ "java/lang/invoke/VarHandle" ∧ (parseMethodDescriptor y_ms_extend.desc).map (fun d => d.parameters.length) = some 2 := by decide +kernel
abbrev b_ms_events : ByteArray := prog_1_method_11_code
def y_ms_events : MethodName := ⟨"MeasuredStages", "events", "()I"⟩
theorem hd_ms_events : y_ms_events.cls ≠ "java/lang/invoke/MethodHandle" ∧ y_ms_events.cls ≠ "java/lang/invoke/VarHandle" ∧ (parseMethodDescriptor y_ms_events.desc).map (fun d => d.parameters.length) = some 0 := by decide +kernel
abbrev b_ms_eventRegister : ByteArray := prog_1_method_12_code
def y_ms_eventRegister : MethodName := ⟨"MeasuredStages", "eventRegister", "(I)I"⟩
theorem hd_ms_eventRegister : y_ms_eventRegister.cls ≠ "java/lang/invoke/MethodHandle" ∧ y_ms_eventRegister.cls ≠ "java/lang/invoke/VarHandle" ∧ (parseMethodDescriptor y_ms_eventRegister.desc).map (fun d => d.parameters.length) = some 1 := by decide +kernel
abbrev b_ms_eventValue : ByteArray := prog_1_method_13_code
def y_ms_eventValue : MethodName := ⟨"MeasuredStages", "eventValue", "(I)J"⟩
theorem hd_ms_eventValue : y_ms_eventValue.cls ≠ "java/lang/invoke/MethodHandle" ∧ y_ms_eventValue.cls ≠ "java/lang/invoke/VarHandle" ∧ (parseMethodDescriptor y_ms_eventValue.desc).map (fun d => d.parameters.length) = some 1 := by decide +kernel
abbrev b_ms_tamper : ByteArray := prog_1_method_14_code
def y_ms_tamper : MethodName := ⟨"MeasuredStages", "tamper", "(IJ)V"⟩
theorem hd_ms_tamper : y_ms_tamper.cls ≠ "java/lang/invoke/MethodHandle" ∧ y_ms_tamper.cls ≠ "java/lang/invoke/VarHandle" ∧ (parseMethodDescriptor y_ms_tamper.desc).map (fun d => d.parameters.length) = some 2 := by decide +kernel
abbrev b_ms_replays : ByteArray := prog_1_method_15_code
def y_ms_replays : MethodName := ⟨"MeasuredStages", "replays", "()Z"⟩
theorem hd_ms_replays : y_ms_replays.cls ≠ "java/lang/invoke/MethodHandle" ∧ y_ms_replays.cls ≠ "java/lang/invoke/VarHandle" ∧ (parseMethodDescriptor y_ms_replays.desc).map (fun d => d.parameters.length) = some 0 := by decide +kernel
abbrev b_ms_seal : ByteArray := prog_1_method_16_code
def y_ms_seal : MethodName := ⟨"MeasuredStages", "seal", "(IJ)I"⟩
theorem hd_ms_seal : y_ms_seal.cls ≠ "java/lang/invoke/MethodHandle" ∧ y_ms_seal.cls ≠ "java/lang/invoke/VarHandle" ∧ (parseMethodDescriptor y_ms_seal.desc).map (fun d => d.parameters.length) = some 2 := by decide +kernel
abbrev b_ms_unseal : ByteArray := prog_1_method_17_code
def y_ms_unseal : MethodName := ⟨"MeasuredStages", "unseal", "(I)J"⟩
theorem hd_ms_unseal : y_ms_unseal.cls ≠ "java/lang/invoke/MethodHandle" ∧ y_ms_unseal.cls ≠ "java/lang/invoke/VarHandle" ∧ (parseMethodDescriptor y_ms_unseal.desc).map (fun d => d.parameters.length) = some 1 := by decide +kernel
abbrev b_ms_discard : ByteArray := prog_1_method_18_code
def y_ms_discard : MethodName := ⟨"MeasuredStages", "discard", "(I)V"⟩
theorem hd_ms_discard : y_ms_discard.cls ≠ "java/lang/invoke/MethodHandle" ∧ y_ms_discard.cls ≠ "java/lang/invoke/VarHandle" ∧ (parseMethodDescriptor y_ms_discard.desc).map (fun d => d.parameters.length) = some 1 := by decide +kernel
abbrev b_ms_quote : ByteArray := prog_1_method_19_code
def y_ms_quote : MethodName := ⟨"MeasuredStages", "quote", "(JJI)J"⟩
theorem hd_ms_quote : y_ms_quote.cls ≠ "java/lang/invoke/MethodHandle" ∧ y_ms_quote.cls ≠ "java/lang/invoke/VarHandle" ∧ (parseMethodDescriptor y_ms_quote.desc).map (fun d => d.parameters.length) = some 3 := by decide +kernel
abbrev b_ms_hash : ByteArray := prog_1_method_20_code
def y_ms_hash : MethodName := ⟨"MeasuredStages", "hash", "(JJ)J"⟩
theorem hd_ms_hash : y_ms_hash.cls ≠ "java/lang/invoke/MethodHandle" ∧ y_ms_hash.cls ≠ "java/lang/invoke/VarHandle" ∧ (parseMethodDescriptor y_ms_hash.desc).map (fun d => d.parameters.length) = some 2 := by decide +kernel
abbrev b_ms_isImage : ByteArray := prog_1_method_21_code
def y_ms_isImage : MethodName := ⟨"MeasuredStages", "isImage", "(I)Z"⟩
theorem hd_ms_isImage : y_ms_isImage.cls ≠ "java/lang/invoke/MethodHandle" ∧ y_ms_isImage.cls ≠ "java/lang/invoke/VarHandle" ∧ (parseMethodDescriptor y_ms_isImage.desc).map (fun d => d.parameters.length) = some 1 := by decide +kernel
abbrev b_ms_isMask : ByteArray := prog_1_method_22_code
def y_ms_isMask : MethodName := ⟨"MeasuredStages", "isMask", "(I)Z"⟩
theorem hd_ms_isMask : y_ms_isMask.cls ≠ "java/lang/invoke/MethodHandle" ∧ y_ms_isMask.cls ≠ "java/lang/invoke/VarHandle" ∧ (parseMethodDescriptor y_ms_isMask.desc).map (fun d => d.parameters.length) = some 1 := by decide +kernel
abbrev b_ms_digestOf : ByteArray := prog_1_method_23_code
def y_ms_digestOf : MethodName := ⟨"MeasuredStages", "digestOf", "(I)J"⟩
theorem hd_ms_digestOf : y_ms_digestOf.cls ≠ "java/lang/invoke/MethodHandle" ∧ y_ms_digestOf.cls ≠ "java/lang/invoke/VarHandle" ∧ (parseMethodDescriptor y_ms_digestOf.desc).map (fun d => d.parameters.length) = some 1 := by decide +kernel
abbrev b_ms_isOpen : ByteArray := prog_1_method_24_code
def y_ms_isOpen : MethodName := ⟨"MeasuredStages", "isOpen", "(I)Z"⟩
theorem hd_ms_isOpen : y_ms_isOpen.cls ≠ "java/lang/invoke/MethodHandle" ∧ y_ms_isOpen.cls ≠ "java/lang/invoke/VarHandle" ∧ (parseMethodDescriptor y_ms_isOpen.desc).map (fun d => d.parameters.length) = some 1 := by decide +kernel
abbrev b_ms_clearForBoot : ByteArray := prog_1_method_25_code
def y_ms_clearForBoot : MethodName := ⟨"MeasuredStages", "clearForBoot", "()V"⟩
theorem hd_ms_clearForBoot : y_ms_clearForBoot.cls ≠ "java/lang/invoke/MethodHandle" ∧ y_ms_clearForBoot.cls ≠ "java/lang/invoke/VarHandle" ∧ (parseMethodDescriptor y_ms_clearForBoot.desc).map (fun d => d.parameters.length) = some 0 := by decide +kernel
abbrev b_ms_runToTheEnd : ByteArray := prog_1_method_26_code
def y_ms_runToTheEnd : MethodName := ⟨"MeasuredStages", "runToTheEnd", "()V"⟩
theorem hd_ms_runToTheEnd : y_ms_runToTheEnd.cls ≠ "java/lang/invoke/MethodHandle" ∧ y_ms_runToTheEnd.cls ≠ "java/lang/invoke/VarHandle" ∧ (parseMethodDescriptor y_ms_runToTheEnd.desc).map (fun d => d.parameters.length) = some 0 := by decide +kernel
abbrev b_ms_doInstruction : ByteArray := prog_1_method_27_code
def y_ms_doInstruction : MethodName := ⟨"MeasuredStages", "doInstruction", "()I"⟩
theorem hd_ms_doInstruction : y_ms_doInstruction.cls ≠ "java/lang/invoke/MethodHandle" ∧ y_ms_doInstruction.cls ≠ "java/lang/invoke/VarHandle" ∧ (parseMethodDescriptor y_ms_doInstruction.desc).map (fun d => d.parameters.length) = some 0 := by decide +kernel
abbrev b_ms_takeDigit : ByteArray := prog_1_method_28_code
def y_ms_takeDigit : MethodName := ⟨"MeasuredStages", "takeDigit", "()I"⟩
theorem hd_ms_takeDigit : y_ms_takeDigit.cls ≠ "java/lang/invoke/MethodHandle" ∧ y_ms_takeDigit.cls ≠ "java/lang/invoke/VarHandle" ∧ (parseMethodDescriptor y_ms_takeDigit.desc).map (fun d => d.parameters.length) = some 0 := by decide +kernel
abbrev b_ms_takeImage : ByteArray := prog_1_method_29_code
def y_ms_takeImage : MethodName := ⟨"MeasuredStages", "takeImage", "()I"⟩
theorem hd_ms_takeImage : y_ms_takeImage.cls ≠ "java/lang/invoke/MethodHandle" ∧ y_ms_takeImage.cls ≠ "java/lang/invoke/VarHandle" ∧ (parseMethodDescriptor y_ms_takeImage.desc).map (fun d => d.parameters.length) = some 0 := by decide +kernel
abbrev b_ms_takeRegister : ByteArray := prog_1_method_30_code
def y_ms_takeRegister : MethodName := ⟨"MeasuredStages", "takeRegister", "()I"⟩
theorem hd_ms_takeRegister : y_ms_takeRegister.cls ≠ "java/lang/invoke/MethodHandle" ∧ y_ms_takeRegister.cls ≠ "java/lang/invoke/VarHandle" ∧ (parseMethodDescriptor y_ms_takeRegister.desc).map (fun d => d.parameters.length) = some 0 := by decide +kernel
abbrev b_ms_launchAt : ByteArray := prog_1_method_31_code
def y_ms_launchAt : MethodName := ⟨"MeasuredStages", "launchAt", "(II)I"⟩
theorem hd_ms_launchAt : y_ms_launchAt.cls ≠ "java/lang/invoke/MethodHandle" ∧ y_ms_launchAt.cls ≠ "java/lang/invoke/VarHandle" ∧ (parseMethodDescriptor y_ms_launchAt.desc).map (fun d => d.parameters.length) = some 2 := by decide +kernel
abbrev b_ms_extendOrFault : ByteArray := prog_1_method_32_code
def y_ms_extendOrFault : MethodName := ⟨"MeasuredStages", "extendOrFault", "(IJ)I"⟩
theorem hd_ms_extendOrFault : y_ms_extendOrFault.cls ≠ "java/lang/invoke/MethodHandle" ∧ y_ms_extendOrFault.cls ≠ "java/lang/invoke/VarHandle" ∧ (parseMethodDescriptor y_ms_extendOrFault.desc).map (fun d => d.parameters.length) = some 2 := by decide +kernel
abbrev b_ms_isApproved : ByteArray := prog_1_method_33_code
def y_ms_isApproved : MethodName := ⟨"MeasuredStages", "isApproved", "(I)Z"⟩
theorem hd_ms_isApproved : y_ms_isApproved.cls ≠ "java/lang/invoke/MethodHandle" ∧ y_ms_isApproved.cls ≠ "java/lang/invoke/VarHandle" ∧ (parseMethodDescriptor y_ms_isApproved.desc).map (fun d => d.parameters.length) = some 1 := by decide +kernel
abbrev b_ms_loadSecret : ByteArray := prog_1_method_34_code
def y_ms_loadSecret : MethodName := ⟨"MeasuredStages", "loadSecret", "(I)I"⟩
theorem hd_ms_loadSecret : y_ms_loadSecret.cls ≠ "java/lang/invoke/MethodHandle" ∧ y_ms_loadSecret.cls ≠ "java/lang/invoke/VarHandle" ∧ (parseMethodDescriptor y_ms_loadSecret.desc).map (fun d => d.parameters.length) = some 1 := by decide +kernel
abbrev b_ms_passOverIfZero : ByteArray := prog_1_method_35_code
def y_ms_passOverIfZero : MethodName := ⟨"MeasuredStages", "passOverIfZero", "(I)V"⟩
theorem hd_ms_passOverIfZero : y_ms_passOverIfZero.cls ≠ "java/lang/invoke/MethodHandle" ∧ y_ms_passOverIfZero.cls ≠ "java/lang/invoke/VarHandle" ∧ (parseMethodDescriptor y_ms_passOverIfZero.desc).map (fun d => d.parameters.length) = some 1 := by decide +kernel
abbrev b_ms_sealAcc : ByteArray := prog_1_method_36_code
def y_ms_sealAcc : MethodName := ⟨"MeasuredStages", "sealAcc", "(I)I"⟩
theorem hd_ms_sealAcc : y_ms_sealAcc.cls ≠ "java/lang/invoke/MethodHandle" ∧ y_ms_sealAcc.cls ≠ "java/lang/invoke/VarHandle" ∧ (parseMethodDescriptor y_ms_sealAcc.desc).map (fun d => d.parameters.length) = some 1 := by decide +kernel
abbrev b_md_init : ByteArray := prog_5_method_1_code
def y_md_init : MethodName := ⟨"MeasuredStagesModel", "<init>", "()V"⟩
theorem hd_md_init : y_md_init.cls ≠ "java/lang/invoke/MethodHandle" ∧ y_md_init.cls ≠ "java/lang/invoke/VarHandle" ∧ (parseMethodDescriptor y_md_init.desc).map (fun d => d.parameters.length) = some 0 := by decide +kernel
abbrev b_md_thrown : ByteArray := prog_5_method_2_code
def y_md_thrown : MethodName := ⟨"MeasuredStagesModel", "thrown", "()I"⟩
theorem hd_md_thrown : y_md_thrown.cls ≠ "java/lang/invoke/MethodHandle" ∧ y_md_thrown.cls ≠ "java/lang/invoke/VarHandle" ∧ (parseMethodDescriptor y_md_thrown.desc).map (fun d => d.parameters.length) = some 0 := by decide +kernel
abbrev b_md_h : ByteArray := prog_5_method_3_code
def y_md_h : MethodName := ⟨"MeasuredStagesModel", "h", "(JJ)J"⟩
theorem hd_md_h : y_md_h.cls ≠ "java/lang/invoke/MethodHandle" ∧ y_md_h.cls ≠ "java/lang/invoke/VarHandle" ∧ (parseMethodDescriptor y_md_h.desc).map (fun d => d.parameters.length) = some 2 := by decide +kernel
abbrev b_md_digit : ByteArray := prog_5_method_4_code
def y_md_digit : MethodName := ⟨"MeasuredStagesModel", "digit", "(II)I"⟩
theorem hd_md_digit : y_md_digit.cls ≠ "java/lang/invoke/MethodHandle" ∧ y_md_digit.cls ≠ "java/lang/invoke/VarHandle" ∧ (parseMethodDescriptor y_md_digit.desc).map (fun d => d.parameters.length) = some 2 := by decide +kernel
abbrev b_md_digest : ByteArray := prog_5_method_5_code
def y_md_digest : MethodName := ⟨"MeasuredStagesModel", "digest", "(I)J"⟩
theorem hd_md_digest : y_md_digest.cls ≠ "java/lang/invoke/MethodHandle" ∧ y_md_digest.cls ≠ "java/lang/invoke/VarHandle" ∧ (parseMethodDescriptor y_md_digest.desc).map (fun d => d.parameters.length) = some 1 := by decide +kernel
abbrev b_md_policy : ByteArray := prog_5_method_6_code
def y_md_policy : MethodName := ⟨"MeasuredStagesModel", "policy", "(I)J"⟩
theorem hd_md_policy : y_md_policy.cls ≠ "java/lang/invoke/MethodHandle" ∧ y_md_policy.cls ≠ "java/lang/invoke/VarHandle" ∧ (parseMethodDescriptor y_md_policy.desc).map (fun d => d.parameters.length) = some 1 := by decide +kernel
abbrev b_md_note : ByteArray := prog_5_method_7_code
def y_md_note : MethodName := ⟨"MeasuredStagesModel", "note", "(IJ)Z"⟩
theorem hd_md_note : y_md_note.cls ≠ "java/lang/invoke/MethodHandle" ∧ y_md_note.cls ≠ "java/lang/invoke/VarHandle" ∧ (parseMethodDescriptor y_md_note.desc).map (fun d => d.parameters.length) = some 2 := by decide +kernel
abbrev b_md_freeBlob : ByteArray := prog_5_method_8_code
def y_md_freeBlob : MethodName := ⟨"MeasuredStagesModel", "freeBlob", "()I"⟩
theorem hd_md_freeBlob : y_md_freeBlob.cls ≠ "java/lang/invoke/MethodHandle" ∧ y_md_freeBlob.cls ≠ "java/lang/invoke/VarHandle" ∧ (parseMethodDescriptor y_md_freeBlob.desc).map (fun d => d.parameters.length) = some 0 := by decide +kernel
abbrev b_md_fill : ByteArray := prog_5_method_9_code
def y_md_fill : MethodName := ⟨"MeasuredStagesModel", "fill", "(IIJ)V"⟩
theorem hd_md_fill : y_md_fill.cls ≠ "java/lang/invoke/MethodHandle" ∧ y_md_fill.cls ≠ "java/lang/invoke/VarHandle" ∧ (parseMethodDescriptor y_md_fill.desc).map (fun d => d.parameters.length) = some 3 := by decide +kernel
abbrev b_md_image : ByteArray := prog_5_method_10_code
def y_md_image : MethodName := ⟨"MeasuredStagesModel", "image", "(IJ)V"⟩
theorem hd_md_image : y_md_image.cls ≠ "java/lang/invoke/MethodHandle" ∧ y_md_image.cls ≠ "java/lang/invoke/VarHandle" ∧ (parseMethodDescriptor y_md_image.desc).map (fun d => d.parameters.length) = some 2 := by decide +kernel
abbrev b_md_approve : ByteArray := prog_5_method_11_code
def y_md_approve : MethodName := ⟨"MeasuredStagesModel", "approve", "(I)V"⟩
theorem hd_md_approve : y_md_approve.cls ≠ "java/lang/invoke/MethodHandle" ∧ y_md_approve.cls ≠ "java/lang/invoke/VarHandle" ∧ (parseMethodDescriptor y_md_approve.desc).map (fun d => d.parameters.length) = some 1 := by decide +kernel
abbrev b_md_launch : ByteArray := prog_5_method_12_code
def y_md_launch : MethodName := ⟨"MeasuredStagesModel", "launch", "(II)Z"⟩
theorem hd_md_launch : y_md_launch.cls ≠ "java/lang/invoke/MethodHandle" ∧ y_md_launch.cls ≠ "java/lang/invoke/VarHandle" ∧ (parseMethodDescriptor y_md_launch.desc).map (fun d => d.parameters.length) = some 2 := by decide +kernel
abbrev b_md_boot : ByteArray := prog_5_method_13_code
def y_md_boot : MethodName := ⟨"MeasuredStagesModel", "boot", "(I)I"⟩
theorem hd_md_boot : y_md_boot.cls ≠ "java/lang/invoke/MethodHandle" ∧ y_md_boot.cls ≠ "java/lang/invoke/VarHandle" ∧ (parseMethodDescriptor y_md_boot.desc).map (fun d => d.parameters.length) = some 1 := by decide +kernel
abbrev b_md_operands : ByteArray := prog_5_method_14_code
def y_md_operands : MethodName := ⟨"MeasuredStagesModel", "operands", "(I)I"⟩
theorem hd_md_operands : y_md_operands.cls ≠ "java/lang/invoke/MethodHandle" ∧ y_md_operands.cls ≠ "java/lang/invoke/VarHandle" ∧ (parseMethodDescriptor y_md_operands.desc).map (fun d => d.parameters.length) = some 1 := by decide +kernel
abbrev b_md_instruction : ByteArray := prog_5_method_15_code
def y_md_instruction : MethodName := ⟨"MeasuredStagesModel", "instruction", "()I"⟩
theorem hd_md_instruction : y_md_instruction.cls ≠ "java/lang/invoke/MethodHandle" ∧ y_md_instruction.cls ≠ "java/lang/invoke/VarHandle" ∧ (parseMethodDescriptor y_md_instruction.desc).map (fun d => d.parameters.length) = some 0 := by decide +kernel
abbrev b_md_faultOf : ByteArray := prog_5_method_16_code
def y_md_faultOf : MethodName := ⟨"MeasuredStagesModel", "faultOf", "(III)I"⟩
theorem hd_md_faultOf : y_md_faultOf.cls ≠ "java/lang/invoke/MethodHandle" ∧ y_md_faultOf.cls ≠ "java/lang/invoke/VarHandle" ∧ (parseMethodDescriptor y_md_faultOf.desc).map (fun d => d.parameters.length) = some 3 := by decide +kernel
abbrev b_md_act : ByteArray := prog_5_method_17_code
def y_md_act : MethodName := ⟨"MeasuredStagesModel", "act", "(IIII)V"⟩
theorem hd_md_act : y_md_act.cls ≠ "java/lang/invoke/MethodHandle" ∧ y_md_act.cls ≠ "java/lang/invoke/VarHandle" ∧ (parseMethodDescriptor y_md_act.desc).map (fun d => d.parameters.length) = some 4 := by decide +kernel
abbrev b_md_fault : ByteArray := prog_5_method_18_code
def y_md_fault : MethodName := ⟨"MeasuredStagesModel", "fault", "()I"⟩
theorem hd_md_fault : y_md_fault.cls ≠ "java/lang/invoke/MethodHandle" ∧ y_md_fault.cls ≠ "java/lang/invoke/VarHandle" ∧ (parseMethodDescriptor y_md_fault.desc).map (fun d => d.parameters.length) = some 0 := by decide +kernel
abbrev b_md_launched : ByteArray := prog_5_method_19_code
def y_md_launched : MethodName := ⟨"MeasuredStagesModel", "launched", "()I"⟩
theorem hd_md_launched : y_md_launched.cls ≠ "java/lang/invoke/MethodHandle" ∧ y_md_launched.cls ≠ "java/lang/invoke/VarHandle" ∧ (parseMethodDescriptor y_md_launched.desc).map (fun d => d.parameters.length) = some 0 := by decide +kernel
abbrev b_md_steps : ByteArray := prog_5_method_20_code
def y_md_steps : MethodName := ⟨"MeasuredStagesModel", "steps", "()I"⟩
theorem hd_md_steps : y_md_steps.cls ≠ "java/lang/invoke/MethodHandle" ∧ y_md_steps.cls ≠ "java/lang/invoke/VarHandle" ∧ (parseMethodDescriptor y_md_steps.desc).map (fun d => d.parameters.length) = some 0 := by decide +kernel
abbrev b_md_acc : ByteArray := prog_5_method_21_code
def y_md_acc : MethodName := ⟨"MeasuredStagesModel", "acc", "()J"⟩
theorem hd_md_acc : y_md_acc.cls ≠ "java/lang/invoke/MethodHandle" ∧ y_md_acc.cls ≠ "java/lang/invoke/VarHandle" ∧ (parseMethodDescriptor y_md_acc.desc).map (fun d => d.parameters.length) = some 0 := by decide +kernel
abbrev b_md_register : ByteArray := prog_5_method_22_code
def y_md_register : MethodName := ⟨"MeasuredStagesModel", "register", "(I)J"⟩
theorem hd_md_register : y_md_register.cls ≠ "java/lang/invoke/MethodHandle" ∧ y_md_register.cls ≠ "java/lang/invoke/VarHandle" ∧ (parseMethodDescriptor y_md_register.desc).map (fun d => d.parameters.length) = some 1 := by decide +kernel
abbrev b_md_extend : ByteArray := prog_5_method_23_code
def y_md_extend : MethodName := ⟨"MeasuredStagesModel", "extend", "(IJ)V"⟩
theorem hd_md_extend : y_md_extend.cls ≠ "java/lang/invoke/MethodHandle" ∧ y_md_extend.cls ≠ "java/lang/invoke/VarHandle" ∧ (parseMethodDescriptor y_md_extend.desc).map (fun d => d.parameters.length) = some 2 := by decide +kernel
abbrev b_md_events : ByteArray := prog_5_method_24_code
def y_md_events : MethodName := ⟨"MeasuredStagesModel", "events", "()I"⟩
theorem hd_md_events : y_md_events.cls ≠ "java/lang/invoke/MethodHandle" ∧ y_md_events.cls ≠ "java/lang/invoke/VarHandle" ∧ (parseMethodDescriptor y_md_events.desc).map (fun d => d.parameters.length) = some 0 := by decide +kernel
abbrev b_md_event : ByteArray := prog_5_method_25_code
def y_md_event : MethodName := ⟨"MeasuredStagesModel", "event", "(I)Z"⟩
theorem hd_md_event : y_md_event.cls ≠ "java/lang/invoke/MethodHandle" ∧ y_md_event.cls ≠ "java/lang/invoke/VarHandle" ∧ (parseMethodDescriptor y_md_event.desc).map (fun d => d.parameters.length) = some 1 := by decide +kernel
abbrev b_md_eventRegister : ByteArray := prog_5_method_26_code
def y_md_eventRegister : MethodName := ⟨"MeasuredStagesModel", "eventRegister", "(I)I"⟩
theorem hd_md_eventRegister : y_md_eventRegister.cls ≠ "java/lang/invoke/MethodHandle" ∧ y_md_eventRegister.cls ≠ "java/lang/invoke/VarHandle" ∧ (parseMethodDescriptor y_md_eventRegister.desc).map (fun d => d.parameters.length) = some 1 := by decide +kernel
abbrev b_md_eventValue : ByteArray := prog_5_method_27_code
def y_md_eventValue : MethodName := ⟨"MeasuredStagesModel", "eventValue", "(I)J"⟩
theorem hd_md_eventValue : y_md_eventValue.cls ≠ "java/lang/invoke/MethodHandle" ∧ y_md_eventValue.cls ≠ "java/lang/invoke/VarHandle" ∧ (parseMethodDescriptor y_md_eventValue.desc).map (fun d => d.parameters.length) = some 1 := by decide +kernel
abbrev b_md_tamper : ByteArray := prog_5_method_28_code
def y_md_tamper : MethodName := ⟨"MeasuredStagesModel", "tamper", "(IJ)V"⟩
theorem hd_md_tamper : y_md_tamper.cls ≠ "java/lang/invoke/MethodHandle" ∧ y_md_tamper.cls ≠ "java/lang/invoke/VarHandle" ∧ (parseMethodDescriptor y_md_tamper.desc).map (fun d => d.parameters.length) = some 2 := by decide +kernel
abbrev b_md_replays : ByteArray := prog_5_method_29_code
def y_md_replays : MethodName := ⟨"MeasuredStagesModel", "replays", "()Z"⟩
theorem hd_md_replays : y_md_replays.cls ≠ "java/lang/invoke/MethodHandle" ∧ y_md_replays.cls ≠ "java/lang/invoke/VarHandle" ∧ (parseMethodDescriptor y_md_replays.desc).map (fun d => d.parameters.length) = some 0 := by decide +kernel
abbrev b_md_seal : ByteArray := prog_5_method_30_code
def y_md_seal : MethodName := ⟨"MeasuredStagesModel", "seal", "(IJ)I"⟩
theorem hd_md_seal : y_md_seal.cls ≠ "java/lang/invoke/MethodHandle" ∧ y_md_seal.cls ≠ "java/lang/invoke/VarHandle" ∧ (parseMethodDescriptor y_md_seal.desc).map (fun d => d.parameters.length) = some 2 := by decide +kernel
abbrev b_md_unseal : ByteArray := prog_5_method_31_code
def y_md_unseal : MethodName := ⟨"MeasuredStagesModel", "unseal", "(I)J"⟩
theorem hd_md_unseal : y_md_unseal.cls ≠ "java/lang/invoke/MethodHandle" ∧ y_md_unseal.cls ≠ "java/lang/invoke/VarHandle" ∧ (parseMethodDescriptor y_md_unseal.desc).map (fun d => d.parameters.length) = some 1 := by decide +kernel
abbrev b_md_discard : ByteArray := prog_5_method_32_code
def y_md_discard : MethodName := ⟨"MeasuredStagesModel", "discard", "(I)V"⟩
theorem hd_md_discard : y_md_discard.cls ≠ "java/lang/invoke/MethodHandle" ∧ y_md_discard.cls ≠ "java/lang/invoke/VarHandle" ∧ (parseMethodDescriptor y_md_discard.desc).map (fun d => d.parameters.length) = some 1 := by decide +kernel
abbrev b_md_quote : ByteArray := prog_5_method_33_code
def y_md_quote : MethodName := ⟨"MeasuredStagesModel", "quote", "(JJI)J"⟩
theorem hd_md_quote : y_md_quote.cls ≠ "java/lang/invoke/MethodHandle" ∧ y_md_quote.cls ≠ "java/lang/invoke/VarHandle" ∧ (parseMethodDescriptor y_md_quote.desc).map (fun d => d.parameters.length) = some 3 := by decide +kernel
abbrev b_bl_init : ByteArray := prog_2_method_1_code
def y_bl_init : MethodName := ⟨"MeasuredStages$Blobs", "<init>", "()V"⟩
theorem hd_bl_init : y_bl_init.cls ≠ "java/lang/invoke/MethodHandle" ∧ y_bl_init.cls ≠ "java/lang/invoke/VarHandle" ∧ (parseMethodDescriptor y_bl_init.desc).map (fun d => d.parameters.length) = some 0 := by decide +kernel
abbrev b_bl_isTaken : ByteArray := prog_2_method_2_code
def y_bl_isTaken : MethodName := ⟨"MeasuredStages$Blobs", "isTaken", "(I)Z"⟩
theorem hd_bl_isTaken : y_bl_isTaken.cls ≠ "java/lang/invoke/MethodHandle" ∧ y_bl_isTaken.cls ≠ "java/lang/invoke/VarHandle" ∧ (parseMethodDescriptor y_bl_isTaken.desc).map (fun d => d.parameters.length) = some 1 := by decide +kernel
abbrev b_bl_leastFree : ByteArray := prog_2_method_3_code
def y_bl_leastFree : MethodName := ⟨"MeasuredStages$Blobs", "leastFree", "()I"⟩
theorem hd_bl_leastFree : y_bl_leastFree.cls ≠ "java/lang/invoke/MethodHandle" ∧ y_bl_leastFree.cls ≠ "java/lang/invoke/VarHandle" ∧ (parseMethodDescriptor y_bl_leastFree.desc).map (fun d => d.parameters.length) = some 0 := by decide +kernel
abbrev b_bl_fill : ByteArray := prog_2_method_4_code
def y_bl_fill : MethodName := ⟨"MeasuredStages$Blobs", "fill", "(IIJJ)V"⟩
theorem hd_bl_fill : y_bl_fill.cls ≠ "java/lang/invoke/MethodHandle" ∧ y_bl_fill.cls ≠ "java/lang/invoke/VarHandle" ∧ (parseMethodDescriptor y_bl_fill.desc).map (fun d => d.parameters.length) = some 4 := by decide +kernel
abbrev b_bl_free : ByteArray := prog_2_method_5_code
def y_bl_free : MethodName := ⟨"MeasuredStages$Blobs", "free", "(I)V"⟩
theorem hd_bl_free : y_bl_free.cls ≠ "java/lang/invoke/MethodHandle" ∧ y_bl_free.cls ≠ "java/lang/invoke/VarHandle" ∧ (parseMethodDescriptor y_bl_free.desc).map (fun d => d.parameters.length) = some 1 := by decide +kernel
abbrev b_rg_init : ByteArray := prog_3_method_1_code
def y_rg_init : MethodName := ⟨"MeasuredStages$Registers", "<init>", "()V"⟩
theorem hd_rg_init : y_rg_init.cls ≠ "java/lang/invoke/MethodHandle" ∧ y_rg_init.cls ≠ "java/lang/invoke/VarHandle" ∧ (parseMethodDescriptor y_rg_init.desc).map (fun d => d.parameters.length) = some 0 := by decide +kernel
abbrev b_rg_isRegister : ByteArray := prog_3_method_2_code
def y_rg_isRegister : MethodName := ⟨"MeasuredStages$Registers", "isRegister", "(I)Z"⟩
theorem hd_rg_isRegister : y_rg_isRegister.cls ≠ "java/lang/invoke/MethodHandle" ∧ y_rg_isRegister.cls ≠ "java/lang/invoke/VarHandle" ∧ (parseMethodDescriptor y_rg_isRegister.desc).map (fun d => d.parameters.length) = some 1 := by decide +kernel
abbrev b_rg_hasEvent : ByteArray := prog_3_method_3_code
def y_rg_hasEvent : MethodName := ⟨"MeasuredStages$Registers", "hasEvent", "(I)Z"⟩
theorem hd_rg_hasEvent : y_rg_hasEvent.cls ≠ "java/lang/invoke/MethodHandle" ∧ y_rg_hasEvent.cls ≠ "java/lang/invoke/VarHandle" ∧ (parseMethodDescriptor y_rg_hasEvent.desc).map (fun d => d.parameters.length) = some 1 := by decide +kernel
abbrev b_rg_clear : ByteArray := prog_3_method_4_code
def y_rg_clear : MethodName := ⟨"MeasuredStages$Registers", "clear", "()V"⟩
theorem hd_rg_clear : y_rg_clear.cls ≠ "java/lang/invoke/MethodHandle" ∧ y_rg_clear.cls ≠ "java/lang/invoke/VarHandle" ∧ (parseMethodDescriptor y_rg_clear.desc).map (fun d => d.parameters.length) = some 0 := by decide +kernel
abbrev b_rg_measure : ByteArray := prog_3_method_5_code
def y_rg_measure : MethodName := ⟨"MeasuredStages$Registers", "measure", "(IJ)Z"⟩
theorem hd_rg_measure : y_rg_measure.cls ≠ "java/lang/invoke/MethodHandle" ∧ y_rg_measure.cls ≠ "java/lang/invoke/VarHandle" ∧ (parseMethodDescriptor y_rg_measure.desc).map (fun d => d.parameters.length) = some 2 := by decide +kernel
abbrev b_rg_agreeWithLog : ByteArray := prog_3_method_6_code
def y_rg_agreeWithLog : MethodName := ⟨"MeasuredStages$Registers", "agreeWithLog", "()Z"⟩
theorem hd_rg_agreeWithLog : y_rg_agreeWithLog.cls ≠ "java/lang/invoke/MethodHandle" ∧ y_rg_agreeWithLog.cls ≠ "java/lang/invoke/VarHandle" ∧ (parseMethodDescriptor y_rg_agreeWithLog.desc).map (fun d => d.parameters.length) = some 0 := by decide +kernel
abbrev b_rg_policyOf : ByteArray := prog_3_method_7_code
def y_rg_policyOf : MethodName := ⟨"MeasuredStages$Registers", "policyOf", "(I)J"⟩
theorem hd_rg_policyOf : y_rg_policyOf.cls ≠ "java/lang/invoke/MethodHandle" ∧ y_rg_policyOf.cls ≠ "java/lang/invoke/VarHandle" ∧ (parseMethodDescriptor y_rg_policyOf.desc).map (fun d => d.parameters.length) = some 1 := by decide +kernel
abbrev b_lw_image : ByteArray := method_3_code
def y_lw_image : MethodName := ⟨"MeasuredStagesLaw", "image", "(LMeasuredStages;IJ)I"⟩
theorem hd_lw_image : y_lw_image.cls ≠ "java/lang/invoke/MethodHandle" ∧ y_lw_image.cls ≠ "java/lang/invoke/VarHandle" ∧ (parseMethodDescriptor y_lw_image.desc).map (fun d => d.parameters.length) = some 3 := by decide +kernel
abbrev b_lw_approve : ByteArray := method_4_code
def y_lw_approve : MethodName := ⟨"MeasuredStagesLaw", "approve", "(LMeasuredStages;I)I"⟩
theorem hd_lw_approve : y_lw_approve.cls ≠ "java/lang/invoke/MethodHandle" ∧ y_lw_approve.cls ≠ "java/lang/invoke/VarHandle" ∧ (parseMethodDescriptor y_lw_approve.desc).map (fun d => d.parameters.length) = some 2 := by decide +kernel
abbrev b_lw_boot : ByteArray := method_5_code
def y_lw_boot : MethodName := ⟨"MeasuredStagesLaw", "boot", "(LMeasuredStages;I[J)I"⟩
theorem hd_lw_boot : y_lw_boot.cls ≠ "java/lang/invoke/MethodHandle" ∧ y_lw_boot.cls ≠ "java/lang/invoke/VarHandle" ∧ (parseMethodDescriptor y_lw_boot.desc).map (fun d => d.parameters.length) = some 3 := by decide +kernel
abbrev b_lw_register : ByteArray := method_6_code
def y_lw_register : MethodName := ⟨"MeasuredStagesLaw", "register", "(LMeasuredStages;I[J)I"⟩
theorem hd_lw_register : y_lw_register.cls ≠ "java/lang/invoke/MethodHandle" ∧ y_lw_register.cls ≠ "java/lang/invoke/VarHandle" ∧ (parseMethodDescriptor y_lw_register.desc).map (fun d => d.parameters.length) = some 3 := by decide +kernel
abbrev b_lw_extend : ByteArray := method_7_code
def y_lw_extend : MethodName := ⟨"MeasuredStagesLaw", "extend", "(LMeasuredStages;IJ)I"⟩
theorem hd_lw_extend : y_lw_extend.cls ≠ "java/lang/invoke/MethodHandle" ∧ y_lw_extend.cls ≠ "java/lang/invoke/VarHandle" ∧ (parseMethodDescriptor y_lw_extend.desc).map (fun d => d.parameters.length) = some 3 := by decide +kernel
abbrev b_lw_eventRegister : ByteArray := method_8_code
def y_lw_eventRegister : MethodName := ⟨"MeasuredStagesLaw", "eventRegister", "(LMeasuredStages;I[J)I"⟩
theorem hd_lw_eventRegister : y_lw_eventRegister.cls ≠ "java/lang/invoke/MethodHandle" ∧ y_lw_eventRegister.cls ≠ "java/lang/invoke/VarHandle" ∧ (parseMethodDescriptor y_lw_eventRegister.desc).map (fun d => d.parameters.length) = some 3 := by decide +kernel
abbrev b_lw_eventValue : ByteArray := method_9_code
def y_lw_eventValue : MethodName := ⟨"MeasuredStagesLaw", "eventValue", "(LMeasuredStages;I[J)I"⟩
theorem hd_lw_eventValue : y_lw_eventValue.cls ≠ "java/lang/invoke/MethodHandle" ∧ y_lw_eventValue.cls ≠ "java/lang/invoke/VarHandle" ∧ (parseMethodDescriptor y_lw_eventValue.desc).map (fun d => d.parameters.length) = some 3 := by decide +kernel
abbrev b_lw_tamper : ByteArray := method_10_code
def y_lw_tamper : MethodName := ⟨"MeasuredStagesLaw", "tamper", "(LMeasuredStages;IJ)I"⟩
theorem hd_lw_tamper : y_lw_tamper.cls ≠ "java/lang/invoke/MethodHandle" ∧ y_lw_tamper.cls ≠ "java/lang/invoke/VarHandle" ∧ (parseMethodDescriptor y_lw_tamper.desc).map (fun d => d.parameters.length) = some 3 := by decide +kernel
abbrev b_lw_seal : ByteArray := method_11_code
def y_lw_seal : MethodName := ⟨"MeasuredStagesLaw", "seal", "(LMeasuredStages;IJ[J)I"⟩
theorem hd_lw_seal : y_lw_seal.cls ≠ "java/lang/invoke/MethodHandle" ∧ y_lw_seal.cls ≠ "java/lang/invoke/VarHandle" ∧ (parseMethodDescriptor y_lw_seal.desc).map (fun d => d.parameters.length) = some 4 := by decide +kernel
abbrev b_lw_unseal : ByteArray := method_12_code
def y_lw_unseal : MethodName := ⟨"MeasuredStagesLaw", "unseal", "(LMeasuredStages;I[J)I"⟩
theorem hd_lw_unseal : y_lw_unseal.cls ≠ "java/lang/invoke/MethodHandle" ∧ y_lw_unseal.cls ≠ "java/lang/invoke/VarHandle" ∧ (parseMethodDescriptor y_lw_unseal.desc).map (fun d => d.parameters.length) = some 3 := by decide +kernel
abbrev b_lw_discard : ByteArray := method_13_code
def y_lw_discard : MethodName := ⟨"MeasuredStagesLaw", "discard", "(LMeasuredStages;I)I"⟩
theorem hd_lw_discard : y_lw_discard.cls ≠ "java/lang/invoke/MethodHandle" ∧ y_lw_discard.cls ≠ "java/lang/invoke/VarHandle" ∧ (parseMethodDescriptor y_lw_discard.desc).map (fun d => d.parameters.length) = some 2 := by decide +kernel
abbrev b_lw_quote : ByteArray := method_14_code
def y_lw_quote : MethodName := ⟨"MeasuredStagesLaw", "quote", "(LMeasuredStages;JJI[J)I"⟩
theorem hd_lw_quote : y_lw_quote.cls ≠ "java/lang/invoke/MethodHandle" ∧ y_lw_quote.cls ≠ "java/lang/invoke/VarHandle" ∧ (parseMethodDescriptor y_lw_quote.desc).map (fun d => d.parameters.length) = some 5 := by decide +kernel
abbrev b_ja_fill : ByteArray := prog_13_method_101_code
def y_ja_fill : MethodName := ⟨"java/util/Arrays", "fill", "([JJ)V"⟩
theorem hd_ja_fill : y_ja_fill.cls ≠ "java/lang/invoke/MethodHandle" ∧ y_ja_fill.cls ≠ "java/lang/invoke/VarHandle" ∧ (parseMethodDescriptor y_ja_fill.desc).map (fun d => d.parameters.length) = some 2 := by decide +kernel
abbrev b_lw_law : ByteArray := code
def F_ms : u_T := fun k => match k with
  | 0 => ("MeasuredStages", "images", "[J", true)
  | 1 => ("MeasuredStages", "approved", "[Z", true)
  | 2 => ("MeasuredStages", "approvedDigests", "[J", true)
  | 3 => ("MeasuredStages", "registers", "LMeasuredStages$Registers;", true)
  | 4 => ("MeasuredStages", "blobs", "LMeasuredStages$Blobs;", true)
  | 5 => ("MeasuredStages", "running", "[J", true)
  | 6 => ("MeasuredStages", "nextDigits", "[I", true)
  | 7 => ("MeasuredStages", "depth", "I", false)
  | 8 => ("MeasuredStages", "acc", "J", false)
  | 9 => ("MeasuredStages", "fault", "I", false)
  | 10 => ("MeasuredStages", "launched", "I", false)
  | _ => ("MeasuredStages", "steps", "I", false)
def t_ms : Nat → FieldType := fun k => match k with
  | 0 => .array .long
  | 1 => .array .boolean
  | 2 => .array .long
  | 3 => .object "MeasuredStages$Registers"
  | 4 => .object "MeasuredStages$Blobs"
  | 5 => .array .long
  | 6 => .array .int
  | 7 => .int
  | 8 => .long
  | 9 => .int
  | 10 => .int
  | _ => .int
theorem n_ms : ∀ a, a < 12 → ∀ b, b < 12 → a ≠ b → (F_ms a).2.1 ≠ (F_ms b).2.1 := by decide +kernel
theorem o_ms : ∀ k, k < 12 → parseFieldDescriptor (F_ms k).2.2.1 = some (t_ms k) := by decide +kernel
theorem i_ms : ∀ w ∈ u_ws "MeasuredStages" F_ms 12, w ∈ TB := by
  show ∀ w ∈ ([.laysFinal "MeasuredStages" "MeasuredStages" "images" "[J", .laysFinal "MeasuredStages" "MeasuredStages" "approved" "[Z", .laysFinal "MeasuredStages" "MeasuredStages" "approvedDigests" "[J", .laysFinal "MeasuredStages" "MeasuredStages" "registers" "LMeasuredStages$Registers;", .laysFinal "MeasuredStages" "MeasuredStages" "blobs" "LMeasuredStages$Blobs;", .laysFinal "MeasuredStages" "MeasuredStages" "running" "[J", .laysFinal "MeasuredStages" "MeasuredStages" "nextDigits" "[I", .lays "MeasuredStages" "MeasuredStages" "depth" "I", .lays "MeasuredStages" "MeasuredStages" "acc" "J", .lays "MeasuredStages" "MeasuredStages" "fault" "I", .lays "MeasuredStages" "MeasuredStages" "launched" "I", .lays "MeasuredStages" "MeasuredStages" "steps" "I"] : List Cond), w ∈ TB
  exact List.forall_mem_cons.mpr ⟨tb_81, List.forall_mem_cons.mpr ⟨tb_83, List.forall_mem_cons.mpr ⟨tb_85, List.forall_mem_cons.mpr ⟨tb_87, List.forall_mem_cons.mpr ⟨tb_89, List.forall_mem_cons.mpr ⟨tb_91, List.forall_mem_cons.mpr ⟨tb_93, List.forall_mem_cons.mpr ⟨tb_95, List.forall_mem_cons.mpr ⟨tb_97, List.forall_mem_cons.mpr ⟨tb_99, List.forall_mem_cons.mpr ⟨tb_101, List.forall_mem_cons.mpr ⟨tb_103, fun _ h => absurd h List.not_mem_nil⟩⟩⟩⟩⟩⟩⟩⟩⟩⟩⟩⟩
def F_rg : u_T := fun k => match k with
  | 0 => ("MeasuredStages$Registers", "held", "[J", true)
  | 1 => ("MeasuredStages$Registers", "eventRegisters", "[I", true)
  | 2 => ("MeasuredStages$Registers", "eventValues", "[J", true)
  | 3 => ("MeasuredStages$Registers", "eventCount", "I", false)
  | _ => ("MeasuredStages$Registers", "replayed", "[J", true)
def t_rg : Nat → FieldType := fun k => match k with
  | 0 => .array .long
  | 1 => .array .int
  | 2 => .array .long
  | 3 => .int
  | _ => .array .long
theorem n_rg : ∀ a, a < 5 → ∀ b, b < 5 → a ≠ b → (F_rg a).2.1 ≠ (F_rg b).2.1 := by decide +kernel
theorem o_rg : ∀ k, k < 5 → parseFieldDescriptor (F_rg k).2.2.1 = some (t_rg k) := by decide +kernel
theorem i_rg : ∀ w ∈ u_ws "MeasuredStages$Registers" F_rg 5, w ∈ TB := by
  show ∀ w ∈ ([.laysFinal "MeasuredStages$Registers" "MeasuredStages$Registers" "held" "[J", .laysFinal "MeasuredStages$Registers" "MeasuredStages$Registers" "eventRegisters" "[I", .laysFinal "MeasuredStages$Registers" "MeasuredStages$Registers" "eventValues" "[J", .lays "MeasuredStages$Registers" "MeasuredStages$Registers" "eventCount" "I", .laysFinal "MeasuredStages$Registers" "MeasuredStages$Registers" "replayed" "[J"] : List Cond), w ∈ TB
  exact List.forall_mem_cons.mpr ⟨tb_36, List.forall_mem_cons.mpr ⟨tb_38, List.forall_mem_cons.mpr ⟨tb_40, List.forall_mem_cons.mpr ⟨tb_42, List.forall_mem_cons.mpr ⟨tb_44, fun _ h => absurd h List.not_mem_nil⟩⟩⟩⟩⟩
def F_bl : u_T := fun k => match k with
  | 0 => ("MeasuredStages$Blobs", "masks", "[I", true)
  | 1 => ("MeasuredStages$Blobs", "policies", "[J", true)
  | _ => ("MeasuredStages$Blobs", "secrets", "[J", true)
def t_bl : Nat → FieldType := fun k => match k with
  | 0 => .array .int
  | 1 => .array .long
  | _ => .array .long
theorem n_bl : ∀ a, a < 3 → ∀ b, b < 3 → a ≠ b → (F_bl a).2.1 ≠ (F_bl b).2.1 := by decide +kernel
theorem o_bl : ∀ k, k < 3 → parseFieldDescriptor (F_bl k).2.2.1 = some (t_bl k) := by decide +kernel
theorem i_bl : ∀ w ∈ u_ws "MeasuredStages$Blobs" F_bl 3, w ∈ TB := by
  show ∀ w ∈ ([.laysFinal "MeasuredStages$Blobs" "MeasuredStages$Blobs" "masks" "[I", .laysFinal "MeasuredStages$Blobs" "MeasuredStages$Blobs" "policies" "[J", .laysFinal "MeasuredStages$Blobs" "MeasuredStages$Blobs" "secrets" "[J"] : List Cond), w ∈ TB
  exact List.forall_mem_cons.mpr ⟨tb_62, List.forall_mem_cons.mpr ⟨tb_64, List.forall_mem_cons.mpr ⟨tb_66, fun _ h => absurd h List.not_mem_nil⟩⟩⟩
def F_md : u_T := fun k => match k with
  | 0 => ("MeasuredStagesModel", "registers", "[J", true)
  | 1 => ("MeasuredStagesModel", "images", "[J", true)
  | 2 => ("MeasuredStagesModel", "hasApproved", "[Z", true)
  | 3 => ("MeasuredStagesModel", "approved", "[J", true)
  | 4 => ("MeasuredStagesModel", "masks", "[I", true)
  | 5 => ("MeasuredStagesModel", "policies", "[J", true)
  | 6 => ("MeasuredStagesModel", "secrets", "[J", true)
  | 7 => ("MeasuredStagesModel", "events", "I", false)
  | 8 => ("MeasuredStagesModel", "eventRegisters", "[I", true)
  | 9 => ("MeasuredStagesModel", "eventValues", "[J", true)
  | 10 => ("MeasuredStagesModel", "again", "[J", true)
  | 11 => ("MeasuredStagesModel", "acc", "J", false)
  | 12 => ("MeasuredStagesModel", "launched", "I", false)
  | 13 => ("MeasuredStagesModel", "steps", "I", false)
  | 14 => ("MeasuredStagesModel", "fault", "I", false)
  | 15 => ("MeasuredStagesModel", "depth", "I", false)
  | 16 => ("MeasuredStagesModel", "runs", "[I", true)
  | 17 => ("MeasuredStagesModel", "next", "[I", true)
  | _ => ("MeasuredStagesModel", "thrown", "I", false)
def t_md : Nat → FieldType := fun k => match k with
  | 0 => .array .long
  | 1 => .array .long
  | 2 => .array .boolean
  | 3 => .array .long
  | 4 => .array .int
  | 5 => .array .long
  | 6 => .array .long
  | 7 => .int
  | 8 => .array .int
  | 9 => .array .long
  | 10 => .array .long
  | 11 => .long
  | 12 => .int
  | 13 => .int
  | 14 => .int
  | 15 => .int
  | 16 => .array .int
  | 17 => .array .int
  | _ => .int
theorem n_md : ∀ a, a < 19 → ∀ b, b < 19 → a ≠ b → (F_md a).2.1 ≠ (F_md b).2.1 := by decide +kernel
theorem o_md : ∀ k, k < 19 → parseFieldDescriptor (F_md k).2.2.1 = some (t_md k) := by decide +kernel
theorem i_md : ∀ w ∈ u_ws "MeasuredStagesModel" F_md 19, w ∈ TB := by
  show ∀ w ∈ ([.laysFinal "MeasuredStagesModel" "MeasuredStagesModel" "registers" "[J", .laysFinal "MeasuredStagesModel" "MeasuredStagesModel" "images" "[J", .laysFinal "MeasuredStagesModel" "MeasuredStagesModel" "hasApproved" "[Z", .laysFinal "MeasuredStagesModel" "MeasuredStagesModel" "approved" "[J", .laysFinal "MeasuredStagesModel" "MeasuredStagesModel" "masks" "[I", .laysFinal "MeasuredStagesModel" "MeasuredStagesModel" "policies" "[J", .laysFinal "MeasuredStagesModel" "MeasuredStagesModel" "secrets" "[J", .lays "MeasuredStagesModel" "MeasuredStagesModel" "events" "I", .laysFinal "MeasuredStagesModel" "MeasuredStagesModel" "eventRegisters" "[I", .laysFinal "MeasuredStagesModel" "MeasuredStagesModel" "eventValues" "[J", .laysFinal "MeasuredStagesModel" "MeasuredStagesModel" "again" "[J", .lays "MeasuredStagesModel" "MeasuredStagesModel" "acc" "J", .lays "MeasuredStagesModel" "MeasuredStagesModel" "launched" "I", .lays "MeasuredStagesModel" "MeasuredStagesModel" "steps" "I", .lays "MeasuredStagesModel" "MeasuredStagesModel" "fault" "I", .lays "MeasuredStagesModel" "MeasuredStagesModel" "depth" "I", .laysFinal "MeasuredStagesModel" "MeasuredStagesModel" "runs" "[I", .laysFinal "MeasuredStagesModel" "MeasuredStagesModel" "next" "[I", .lays "MeasuredStagesModel" "MeasuredStagesModel" "thrown" "I"] : List Cond), w ∈ TB
  exact List.forall_mem_cons.mpr ⟨tb_478, List.forall_mem_cons.mpr ⟨tb_480, List.forall_mem_cons.mpr ⟨tb_482, List.forall_mem_cons.mpr ⟨tb_484, List.forall_mem_cons.mpr ⟨tb_486, List.forall_mem_cons.mpr ⟨tb_488, List.forall_mem_cons.mpr ⟨tb_490, List.forall_mem_cons.mpr ⟨tb_492, List.forall_mem_cons.mpr ⟨tb_494, List.forall_mem_cons.mpr ⟨tb_496, List.forall_mem_cons.mpr ⟨tb_498, List.forall_mem_cons.mpr ⟨tb_500, List.forall_mem_cons.mpr ⟨tb_502, List.forall_mem_cons.mpr ⟨tb_504, List.forall_mem_cons.mpr ⟨tb_506, List.forall_mem_cons.mpr ⟨tb_508, List.forall_mem_cons.mpr ⟨tb_510, List.forall_mem_cons.mpr ⟨tb_512, List.forall_mem_cons.mpr ⟨tb_514, fun _ h => absurd h List.not_mem_nil⟩⟩⟩⟩⟩⟩⟩⟩⟩⟩⟩⟩⟩⟩⟩⟩⟩⟩⟩
