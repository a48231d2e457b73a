/-! INSTRUCTIONS, printed by wip/whole/names.py -/

