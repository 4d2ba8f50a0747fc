theorem zz_good : tables_1.all (fun w => goodWord w || (match w with | .stringRef _ _ _ => true | _ => false)) = true := by decide +kernel
theorem zz_good2 : tables_1.all (fun w => goodWord w || (match w with | .stringRef _ _ _ => true | .arrayOver _ => true | _ => false)) = true := by decide +kernel
theorem zz_good3 : tables_1.all (fun w => goodWord w || (match w with | .stringRef _ _ _ => true | .arrayOver _ => true | .soleField _ _ => true | .superclass _ _ => true | .methodLinkNest _ _ _ _ => true | _ => false)) = true := by decide +kernel
theorem zz_n : nativeFrameWords "java/lang/System" "arraycopy" 5 = 5 := by decide +kernel
