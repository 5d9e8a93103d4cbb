/-! ===== ALL CONTRACTS ===== -/
section
theorem p_all : kAll := ⟨p_station, p_fault, p_slow, p_guard, p_on, p_tower, p_order, p_cancel, p_second, p_plan, p_stop, p_planned, p_alarm, p_alarmed, p_now, p_outcome, p_of, p_failure, p_call, p_fuse, p_bulkhead, p_waiting, p_tokens, p_kept, p_joined, p_level, p_effect, p_isOf, p_count⟩
end
